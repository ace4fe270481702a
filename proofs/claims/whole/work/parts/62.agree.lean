/-! ===== the changes: both sides answer alike, and stay alike ===== -/
theorem sh_openTicket : sH_openTicket Rl := by
  intro β τ γ η σ θ μ a b h
  have hρ := AL_rec h.1 h.2.1
  have hvρ := vM_rec h.2.1
  unfold fX6_openTicket fX7_openTicket
  have i_1 : (fX6_within a 1 13 = true) ↔ (fX7_in a 1 13 = true) := Iff.rfl
  by_cases c_1 : fX6_within a 1 13 = true
  · rw [if_pos c_1, if_pos (i_1.mp c_1)]
    have i_2 : (fX6_within b 0 3 = true) ↔ (fX7_in b 0 3 = true) := Iff.rfl
    by_cases c_2 : fX6_within b 0 3 = true
    · rw [if_pos c_2, if_pos (i_2.mp c_2)]
      have i_3 : (fX0_hasRoom β = true) ↔ (¬ (μ.2 0 0 = 20)) := iRoom h.1
      by_cases c_3 : fX0_hasRoom β = true
      · rw [if_pos c_3, if_neg (i_3.mp c_3)]
        have hb : vB _ := vB_addTicket (p := a) (z := b) h.1.1 (hasRoom_lt h.1.1 c_3)
        have hr := open_RB (p := a) (z := b) hρ (by rw [← hρ.n]; exact hasRoom_lt h.1.1 c_3) (in_nat (a := 1) (b := 13) (by decide) (by decide) (i_1.mp c_1))
        have hm := vM_opens (p := a) (z := b) hvρ (by rw [← hρ.n]; exact hasRoom_lt h.1.1 c_3)
        refine ⟨Or.inl ⟨congrArg Sum.inr ?_, rcd_0 h.2.1⟩, Rl_chg h hb hm hr rfl (fun j hj => (lay_j hj).trans ((lay_j hj).trans ((lay_j hj).trans (sE_r hj))))⟩
        exact open_val hρ a b
      · rw [if_neg c_3, if_pos (Classical.not_not.mp (fun q => c_3 (i_3.mpr q)))]
        exact ⟨Or.inr (Or.inr (⟨rfl, rfl⟩)), Rl_f h 2⟩
    · rw [if_neg c_2, if_neg (fun q => c_2 (i_2.mpr q))]
      exact ⟨Or.inr (Or.inl ⟨rfl, rfl⟩), Rl_f h 1⟩
  · rw [if_neg c_1, if_neg (fun q => c_1 (i_1.mpr q))]
    exact ⟨Or.inr (Or.inl ⟨rfl, rfl⟩), Rl_f h 1⟩
theorem sh_changePriority : sH_changePriority Rl := by
  intro β τ γ η σ θ μ a b h
  have hρ := AL_rec h.1 h.2.1
  have hvρ := vM_rec h.2.1
  unfold fX6_changePriority fX7_changePriority
  have i_1 : (fX0_hasTicket β a = true) ↔ (fX7_isTicket (sI μ 0 0) a = true) := iT h.1 a
  by_cases c_1 : fX0_hasTicket β a = true
  · rw [if_pos c_1, if_pos (i_1.mp c_1)]
    obtain ⟨e_a, t_a⟩ := tick h.1 c_1
    have r_a : a.toNatClampNeg < cM (fX7_records (sI μ 0 0)) := by rw [← hρ.n, h.1.n]; exact t_a
    have i_2 : (fX6_within b 0 3 = true) ↔ (fX7_in b 0 3 = true) := Iff.rfl
    by_cases c_2 : fX6_within b 0 3 = true
    · rw [if_pos c_2, if_pos (i_2.mp c_2)]
      have hb : vB _ := vB_setPriority (t := a.toNatClampNeg) (p := b) h.1.1
      have hr := prio_RB hρ r_a b
      have hm := vM_layD (t := a.toNatClampNeg) (w := 1) (v := b) hvρ rfl
      refine ⟨Or.inl ⟨congrArg Sum.inr ?_, rcd_0 h.2.1⟩, Rl_chg h hb hm hr rfl (fun j hj => lay_j hj)⟩
      exact hρ.pr r_a
    · rw [if_neg c_2, if_neg (fun q => c_2 (i_2.mpr q))]
      exact ⟨Or.inr (Or.inr (⟨rfl, rfl⟩)), Rl_f h 2⟩
  · rw [if_neg c_1, if_neg (fun q => c_1 (i_1.mpr q))]
    exact ⟨Or.inr (Or.inl ⟨rfl, rfl⟩), Rl_f h 1⟩
theorem sh_need : sH_need Rl := by
  intro β τ γ η σ θ μ a b h
  have hρ := AL_rec h.1 h.2.1
  have hvρ := vM_rec h.2.1
  unfold fX6_need fX7_need
  have i_1 : (fX0_hasTicket β a = true) ↔ (fX7_isTicket (sI μ 0 0) a = true) := iT h.1 a
  by_cases c_1 : fX0_hasTicket β a = true
  · rw [if_pos c_1, if_pos (i_1.mp c_1)]
    obtain ⟨e_a, t_a⟩ := tick h.1 c_1
    have r_a : a.toNatClampNeg < cM (fX7_records (sI μ 0 0)) := by rw [← hρ.n, h.1.n]; exact t_a
    have i_2 : (fX0_hasTicket β b = true) ↔ (fX7_isTicket (sI μ 0 0) b = true) := iT h.1 b
    by_cases c_2 : fX0_hasTicket β b = true
    · rw [if_pos c_2, if_pos (i_2.mp c_2)]
      obtain ⟨e_b, t_b⟩ := tick h.1 c_2
      have r_b : b.toNatClampNeg < cM (fX7_records (sI μ 0 0)) := by rw [← hρ.n, h.1.n]; exact t_b
      have i_3 : (¬ (a = b)) ↔ (¬ (a = b)) := Iff.rfl
      by_cases c_3 : ¬ (a = b)
      · rw [if_neg c_3, if_neg (i_3.mp c_3)]
        have i_4 : (fX0_canNeed β a.toNatClampNeg b.toNatClampNeg = true) ↔ (fX7_canNeed (sI μ 0 0) a.toNatClampNeg b.toNatClampNeg = true) := iNeed h.1 t_a t_b (fun q => c_3 (e_a.trans ((congrArg nI q).trans e_b.symm)))
        by_cases c_4 : fX0_canNeed β a.toNatClampNeg b.toNatClampNeg = true
        · rw [if_pos c_4, if_pos (i_4.mp c_4)]
          obtain ⟨q1, q2, q3⟩ := can_need hρ r_a r_b ((iNeed hρ r_a r_b (fun q => c_3 (e_a.trans ((congrArg nI q).trans e_b.symm)))).mp c_4)
          have hb : vB _ := vB_addNeed (t := a.toNatClampNeg) (u := b) h.1.1
          have hr := need_RBx hρ r_a r_b e_b q1 q2 q3
          have hm := vM_takesx (t := a.toNatClampNeg) (u := b) hvρ
          refine ⟨Or.inl ⟨congrArg Sum.inr ?_, rcd_0 h.2.1⟩, Rl_chg h hb hm hr rfl (fun j hj => lay_j hj)⟩
          exact need_val hρ r_a r_b e_b q1
        · rw [if_neg c_4, if_neg (fun q => c_4 (i_4.mpr q))]
          exact ⟨Or.inr (Or.inr (Or.inr (⟨rfl, rfl⟩))), Rl_f h 3⟩
      · rw [if_pos (Classical.not_not.mp c_3), if_pos (Classical.not_not.mp (fun q => c_3 (i_3.mpr q)))]
        exact ⟨Or.inr (Or.inr (Or.inl ⟨rfl, rfl⟩)), Rl_f h 2⟩
    · rw [if_neg c_2, if_neg (fun q => c_2 (i_2.mpr q))]
      exact ⟨Or.inr (Or.inl ⟨rfl, rfl⟩), Rl_f h 1⟩
  · rw [if_neg c_1, if_neg (fun q => c_1 (i_1.mpr q))]
    exact ⟨Or.inr (Or.inl ⟨rfl, rfl⟩), Rl_f h 1⟩
theorem sh_release : sH_release Rl := by
  intro β τ γ η σ θ μ a b h
  have hρ := AL_rec h.1 h.2.1
  have hvρ := vM_rec h.2.1
  unfold fX6_release fX7_release
  have i_1 : (fX0_hasTicket β a = true) ↔ (fX7_isTicket (sI μ 0 0) a = true) := iT h.1 a
  by_cases c_1 : fX0_hasTicket β a = true
  · rw [if_pos c_1, if_pos (i_1.mp c_1)]
    obtain ⟨e_a, t_a⟩ := tick h.1 c_1
    have r_a : a.toNatClampNeg < cM (fX7_records (sI μ 0 0)) := by rw [← hρ.n, h.1.n]; exact t_a
    have i_2 : (fX0_hasTicket β b = true) ↔ (fX7_isTicket (sI μ 0 0) b = true) := iT h.1 b
    by_cases c_2 : fX0_hasTicket β b = true
    · rw [if_pos c_2, if_pos (i_2.mp c_2)]
      obtain ⟨e_b, t_b⟩ := tick h.1 c_2
      have r_b : b.toNatClampNeg < cM (fX7_records (sI μ 0 0)) := by rw [← hρ.n, h.1.n]; exact t_b
      have i_3 : (fX0_needsDirectly β a.toNatClampNeg b = true) ↔ (fX7_needsIt (sI μ 0 0) a.toNatClampNeg b = true) := iNd h.1 t_a t_b e_b
      by_cases c_3 : fX0_needsDirectly β a.toNatClampNeg b = true
      · rw [if_pos c_3, if_pos (i_3.mp c_3)]
        have q1 : bt (fX7_of (fX7_records (sI μ 0 0)) a.toNatClampNeg 9) b.toNatClampNeg = true := by
          have q0 := (congrArg (fX7_needsIt (sI μ 0 0) a.toNatClampNeg) e_b).symm.trans (i_3.mp c_3)
          rw [needsIt_bt (by have := h.1.n20; omega)] at q0
          rw [of_row (rec_s h.2.1)]
          exact q0
        have hb : vB _ := vB_removeNeed (t := a.toNatClampNeg) (u := b) h.1.1
        have hr := rel_RB hρ r_a r_b e_b q1
        have hm := vM_takesx (t := a.toNatClampNeg) (u := b) hvρ
        refine ⟨Or.inl ⟨congrArg Sum.inr ?_, rcd_0 h.2.1⟩, Rl_chg h hb hm hr rfl (fun j hj => lay_j hj)⟩
        exact rel_val hρ r_a r_b e_b q1
      · rw [if_neg c_3, if_neg (fun q => c_3 (i_3.mpr q))]
        exact ⟨Or.inr (Or.inr (⟨rfl, rfl⟩)), Rl_f h 2⟩
    · rw [if_neg c_2, if_neg (fun q => c_2 (i_2.mpr q))]
      exact ⟨Or.inr (Or.inl ⟨rfl, rfl⟩), Rl_f h 1⟩
  · rw [if_neg c_1, if_neg (fun q => c_1 (i_1.mpr q))]
    exact ⟨Or.inr (Or.inl ⟨rfl, rfl⟩), Rl_f h 1⟩
theorem sh_assign : sH_assign Rl := by
  intro β τ γ η σ θ μ a b h
  have hρ := AL_rec h.1 h.2.1
  have hvρ := vM_rec h.2.1
  unfold fX6_assign fX7_assign
  have i_1 : (fX0_hasTicket β a = true) ↔ (fX7_isTicket (sI μ 0 0) a = true) := iT h.1 a
  by_cases c_1 : fX0_hasTicket β a = true
  · rw [if_pos c_1, if_pos (i_1.mp c_1)]
    obtain ⟨e_a, t_a⟩ := tick h.1 c_1
    have r_a : a.toNatClampNeg < cM (fX7_records (sI μ 0 0)) := by rw [← hρ.n, h.1.n]; exact t_a
    have i_2 : (fX6_isOwner b = true) ↔ (fX7_isOwner b = true) := Iff.rfl
    by_cases c_2 : fX6_isOwner b = true
    · rw [if_pos c_2, if_pos (i_2.mp c_2)]
      obtain ⟨e_b, t_b⟩ := isOwner_i c_2
      have i_3 : (fX0_canBeGivenTo β a.toNatClampNeg b.toNatClampNeg = true) ↔ (fX7_canAssign (sI μ 0 0) a.toNatClampNeg b.toNatClampNeg = true) := iGive h.1 t_a t_b
      by_cases c_3 : fX0_canBeGivenTo β a.toNatClampNeg b.toNatClampNeg = true
      · rw [if_pos c_3, if_pos (i_3.mp c_3)]
        have hb : vB _ := vB_giveTo (t := a.toNatClampNeg) h.1.1 t_b
        have hr := give_RBx hρ r_a t_b c_3
        have hm := vM_assigns (t := a.toNatClampNeg) hvρ t_b
        refine ⟨Or.inl ⟨congrArg Sum.inr ?_, rcd_0 h.2.1⟩, Rl_chg h hb hm hr rfl (fun j hj => lay_j hj)⟩
        exact acct_eq (⟨hb, hm.1, hr⟩ : AL _ _) t_b
      · rw [if_neg c_3, if_neg (fun q => c_3 (i_3.mpr q))]
        exact ⟨Or.inr (Or.inr (⟨rfl, rfl⟩)), Rl_f h 2⟩
    · rw [if_neg c_2, if_neg (fun q => c_2 (i_2.mpr q))]
      exact ⟨Or.inr (Or.inl ⟨rfl, rfl⟩), Rl_f h 1⟩
  · rw [if_neg c_1, if_neg (fun q => c_1 (i_1.mpr q))]
    exact ⟨Or.inr (Or.inl ⟨rfl, rfl⟩), Rl_f h 1⟩
theorem sh_unassign : sH_unassign Rl := by
  intro β τ γ η σ θ μ a h
  have hρ := AL_rec h.1 h.2.1
  have hvρ := vM_rec h.2.1
  unfold fX6_unassign fX7_unassign
  have i_1 : (fX0_hasTicket β a = true) ↔ (fX7_isTicket (sI μ 0 0) a = true) := iT h.1 a
  by_cases c_1 : fX0_hasTicket β a = true
  · rw [if_pos c_1, if_pos (i_1.mp c_1)]
    obtain ⟨e_a, t_a⟩ := tick h.1 c_1
    have r_a : a.toNatClampNeg < cM (fX7_records (sI μ 0 0)) := by rw [← hρ.n, h.1.n]; exact t_a
    have i_2 : (¬ (β.2 3 a.toNatClampNeg = -1)) ↔ (¬ (fX7_of (sI μ 0 0) a.toNatClampNeg 3 = 0)) := not_congr (h.1.ow0 t_a).symm
    by_cases c_2 : ¬ (β.2 3 a.toNatClampNeg = -1)
    · rw [if_neg c_2, if_neg (i_2.mp c_2)]
      have i_3 : (β.2 0 a.toNatClampNeg = 0) ↔ (fX7_of (sI μ 0 0) a.toNatClampNeg 2 = 0) := by rw [h.1.st t_a]; exact Iff.rfl
      by_cases c_3 : β.2 0 a.toNatClampNeg = 0
      · rw [if_pos c_3, if_pos (i_3.mp c_3)]
        have hb : vB _ := vB_takeFromOwner (t := a.toNatClampNeg) h.1.1
        have hr := take_RB hρ r_a (left_0 (of_row (rec_s h.2.1) _ _) (i_3.mp c_3) (by decide))
        have hm := vM_lay (t := a.toNatClampNeg) (w := 3) (v := 0) hvρ (by decide) (fun _ => ⟨0, by decide, rfl⟩) (fun e => absurd e (by decide))
        refine ⟨Or.inl ⟨congrArg Sum.inr ?_, rcd_0 h.2.1⟩, Rl_chg h hb hm hr rfl (fun j hj => lay_j hj)⟩
        exact show β.2 3 a.toNatClampNeg = fX7_of μ a.toNatClampNeg 3 - 1 by rw [← h.1.ow t_a]; simp
      · rw [if_neg c_3, if_neg (fun q => c_3 (i_3.mpr q))]
        exact ⟨Or.inr (Or.inr (⟨rfl, rfl⟩)), Rl_f h 2⟩
    · rw [if_pos (Classical.not_not.mp c_2), if_pos (Classical.not_not.mp (fun q => c_2 (i_2.mpr q)))]
      exact ⟨Or.inr (Or.inr (⟨rfl, rfl⟩)), Rl_f h 2⟩
  · rw [if_neg c_1, if_neg (fun q => c_1 (i_1.mpr q))]
    exact ⟨Or.inr (Or.inl ⟨rfl, rfl⟩), Rl_f h 1⟩
theorem sh_changeCapacity : sH_changeCapacity Rl := by
  intro β τ γ η σ θ μ a b h
  have hρ := AL_rec h.1 h.2.1
  have hvρ := vM_rec h.2.1
  unfold fX6_changeCapacity fX7_changeCapacity
  have i_1 : (fX6_isOwner a = true) ↔ (fX7_isOwner a = true) := Iff.rfl
  by_cases c_1 : fX6_isOwner a = true
  · rw [if_pos c_1, if_pos (i_1.mp c_1)]
    obtain ⟨e_a, t_a⟩ := isOwner_i c_1
    have i_2 : (fX6_within b 0 99 = true) ↔ (fX7_in b 0 99 = true) := Iff.rfl
    by_cases c_2 : fX6_within b 0 99 = true
    · rw [if_pos c_2, if_pos (i_2.mp c_2)]
      have i_3 : (¬ (b < β.2 11 a.toNatClampNeg)) ↔ (fX7_load (sI μ 0 0) a ≤ b) := iCap h.1 e_a t_a
      by_cases c_3 : ¬ (b < β.2 11 a.toNatClampNeg)
      · rw [if_neg c_3, if_pos (i_3.mp c_3)]
        have hb : vB _ := vB_setCapacity (o := a.toNatClampNeg) (z := b) h.1.1
        have hr := cap_RB hρ t_a b
        have hm := vM_low (i := 4 + a.toNatClampNeg) (v := b) hvρ (by omega) (by omega)
        refine ⟨Or.inl ⟨congrArg Sum.inr ?_, rcd_0 h.2.1⟩, Rl_chg h hb hm hr rfl (fun j hj => sE_r hj)⟩
        exact hρ.b.2.1 _ t_a
      · rw [if_pos (Classical.not_not.mp c_3), if_neg (fun q => c_3 (i_3.mpr q))]
        exact ⟨Or.inr (Or.inr (Or.inr (⟨rfl, rfl⟩))), Rl_f h 3⟩
    · rw [if_neg c_2, if_neg (fun q => c_2 (i_2.mpr q))]
      exact ⟨Or.inr (Or.inr (Or.inl ⟨rfl, rfl⟩)), Rl_f h 2⟩
  · rw [if_neg c_1, if_neg (fun q => c_1 (i_1.mpr q))]
    exact ⟨Or.inr (Or.inl ⟨rfl, rfl⟩), Rl_f h 1⟩
theorem sh_plan : sH_plan Rl := by
  intro β τ γ η σ θ μ a b h
  have hρ := AL_rec h.1 h.2.1
  have hvρ := vM_rec h.2.1
  unfold fX6_plan fX7_plan
  have i_1 : (fX0_hasTicket β a = true) ↔ (fX7_isTicket (sI μ 0 0) a = true) := iT h.1 a
  by_cases c_1 : fX0_hasTicket β a = true
  · rw [if_pos c_1, if_pos (i_1.mp c_1)]
    obtain ⟨e_a, t_a⟩ := tick h.1 c_1
    have r_a : a.toNatClampNeg < cM (fX7_records (sI μ 0 0)) := by rw [← hρ.n, h.1.n]; exact t_a
    have i_2 : (fX6_isMilestone b = true) ↔ (fX7_isMilestone b = true) := Iff.rfl
    by_cases c_2 : fX6_isMilestone b = true
    · rw [if_pos c_2, if_pos (i_2.mp c_2)]
      obtain ⟨e_b, t_b⟩ := isMilestone_i c_2
      have i_3 : (fX0_isUnfinished β a.toNatClampNeg = true) ↔ (fX7_isLeft (sI μ 0 0) a.toNatClampNeg = true) := iU h.1 t_a
      by_cases c_3 : fX0_isUnfinished β a.toNatClampNeg = true
      · rw [if_pos c_3, if_pos (i_3.mp c_3)]
        have i_4 : (¬ (β.2 4 a.toNatClampNeg = b)) ↔ (¬ (fX7_of (sI μ 0 0) a.toNatClampNeg 4 = b + 1)) := not_congr (h.1.msI t_a b).symm
        by_cases c_4 : ¬ (β.2 4 a.toNatClampNeg = b)
        · rw [if_neg c_4, if_neg (i_4.mp c_4)]
          have hb : vB (sE β 4 a.toNatClampNeg b) := h.1.1
          have hr := plan_RB hρ r_a b
          have hm := vM_lay (t := a.toNatClampNeg) (w := 4) (v := b + 1) hvρ (by decide) (fun e => absurd e (by decide)) (fun _ => ⟨b.toNatClampNeg + 1, by omega, nx_add e_b rfl⟩)
          refine ⟨Or.inl ⟨congrArg Sum.inr ?_, rcd_0 h.2.1⟩, Rl_chg h hb hm hr rfl (fun j hj => lay_j hj)⟩
          exact leftFor_eq (⟨hb, hm.1, hr⟩ : AL _ _) b
        · rw [if_pos (Classical.not_not.mp c_4), if_pos (Classical.not_not.mp (fun q => c_4 (i_4.mpr q)))]
          exact ⟨Or.inr (Or.inr (⟨rfl, rfl⟩)), Rl_f h 2⟩
      · rw [if_neg c_3, if_neg (fun q => c_3 (i_3.mpr q))]
        exact ⟨Or.inr (Or.inr (⟨rfl, rfl⟩)), Rl_f h 2⟩
    · rw [if_neg c_2, if_neg (fun q => c_2 (i_2.mpr q))]
      exact ⟨Or.inr (Or.inl ⟨rfl, rfl⟩), Rl_f h 1⟩
  · rw [if_neg c_1, if_neg (fun q => c_1 (i_1.mpr q))]
    exact ⟨Or.inr (Or.inl ⟨rfl, rfl⟩), Rl_f h 1⟩
theorem sh_unplan : sH_unplan Rl := by
  intro β τ γ η σ θ μ a h
  have hρ := AL_rec h.1 h.2.1
  have hvρ := vM_rec h.2.1
  unfold fX6_unplan fX7_unplan
  have i_1 : (fX0_hasTicket β a = true) ↔ (fX7_isTicket (sI μ 0 0) a = true) := iT h.1 a
  by_cases c_1 : fX0_hasTicket β a = true
  · rw [if_pos c_1, if_pos (i_1.mp c_1)]
    obtain ⟨e_a, t_a⟩ := tick h.1 c_1
    have r_a : a.toNatClampNeg < cM (fX7_records (sI μ 0 0)) := by rw [← hρ.n, h.1.n]; exact t_a
    have i_2 : (¬ (β.2 4 a.toNatClampNeg = -1)) ↔ (¬ (fX7_of (sI μ 0 0) a.toNatClampNeg 4 = 0)) := not_congr (h.1.ms0 t_a).symm
    by_cases c_2 : ¬ (β.2 4 a.toNatClampNeg = -1)
    · rw [if_neg c_2, if_neg (i_2.mp c_2)]
      have i_3 : (fX0_isUnfinished β a.toNatClampNeg = true) ↔ (fX7_isLeft (sI μ 0 0) a.toNatClampNeg = true) := iU h.1 t_a
      by_cases c_3 : fX0_isUnfinished β a.toNatClampNeg = true
      · rw [if_pos c_3, if_pos (i_3.mp c_3)]
        have hb : vB _ := vB_takeFromMilestone (t := a.toNatClampNeg) h.1.1
        have hr := unplan_RB hρ r_a
        have hm := vM_lay (t := a.toNatClampNeg) (w := 4) (v := 0) hvρ (by decide) (fun e => absurd e (by decide)) (fun _ => ⟨0, by decide, rfl⟩)
        refine ⟨Or.inl ⟨congrArg Sum.inr ?_, rcd_0 h.2.1⟩, Rl_chg h hb hm hr rfl (fun j hj => lay_j hj)⟩
        exact show β.2 4 a.toNatClampNeg = fX7_of μ a.toNatClampNeg 4 - 1 by rw [← h.1.ms t_a]; simp
      · rw [if_neg c_3, if_neg (fun q => c_3 (i_3.mpr q))]
        exact ⟨Or.inr (Or.inr (⟨rfl, rfl⟩)), Rl_f h 2⟩
    · rw [if_pos (Classical.not_not.mp c_2), if_pos (Classical.not_not.mp (fun q => c_2 (i_2.mpr q)))]
      exact ⟨Or.inr (Or.inr (⟨rfl, rfl⟩)), Rl_f h 2⟩
  · rw [if_neg c_1, if_neg (fun q => c_1 (i_1.mpr q))]
    exact ⟨Or.inr (Or.inl ⟨rfl, rfl⟩), Rl_f h 1⟩
theorem sh_changeDate : sH_changeDate Rl := by
  intro β τ γ η σ θ μ a b h
  have hρ := AL_rec h.1 h.2.1
  have hvρ := vM_rec h.2.1
  unfold fX6_changeDate fX7_changeDate
  have i_1 : (fX6_isMilestone a = true) ↔ (fX7_isMilestone a = true) := Iff.rfl
  by_cases c_1 : fX6_isMilestone a = true
  · rw [if_pos c_1, if_pos (i_1.mp c_1)]
    obtain ⟨e_a, t_a⟩ := isMilestone_i c_1
    have i_2 : (fX6_within b 0 999 = true) ↔ (fX7_in b 0 999 = true) := Iff.rfl
    by_cases c_2 : fX6_within b 0 999 = true
    · rw [if_pos c_2, if_pos (i_2.mp c_2)]
      have hb : vB _ := vB_setDate (m := a.toNatClampNeg) (z := b) h.1.1
      have hr := date_RB hρ t_a b
      have hm := vM_low (i := 9 + a.toNatClampNeg) (v := b) hvρ (by omega) (by omega)
      refine ⟨Or.inl ⟨congrArg Sum.inr ?_, rcd_0 h.2.1⟩, Rl_chg h hb hm hr rfl (fun j hj => sE_r hj)⟩
      exact hρ.b.2.2.1 _ t_a
    · rw [if_neg c_2, if_neg (fun q => c_2 (i_2.mpr q))]
      exact ⟨Or.inr (Or.inr (⟨rfl, rfl⟩)), Rl_f h 2⟩
  · rw [if_neg c_1, if_neg (fun q => c_1 (i_1.mpr q))]
    exact ⟨Or.inr (Or.inl ⟨rfl, rfl⟩), Rl_f h 1⟩
theorem sh_endDays : sH_endDays Rl := by
  intro β τ γ η σ θ μ a h
  have hρ := AL_rec h.1 h.2.1
  have hvρ := vM_rec h.2.1
  unfold fX6_endDays fX7_endDays
  have i_1 : (fX6_within a 1 30 = true) ↔ (fX7_in a 1 30 = true) := Iff.rfl
  by_cases c_1 : fX6_within a 1 30 = true
  · rw [if_pos c_1, if_pos (i_1.mp c_1)]
    have i_2 : (fX0_canPass β a = true) ↔ (μ.2 0 1 + a ≤ 999) := iPass h.1 a
    by_cases c_2 : fX0_canPass β a = true
    · rw [if_pos c_2, if_pos (i_2.mp c_2)]
      have hb : vB _ := vB_pass (d := a) h.1.1
      have hr := days_RBx hρ (i_1.mp c_1) (show (fX7_records (sI μ 0 0)).2 0 1 + a ≤ 999 by rw [rec_s h.2.1]; exact i_2.mp c_2)
      have hm := vM_ends (d := a) hvρ
      refine ⟨Or.inl ⟨congrArg Sum.inr ?_, (congrFun (ends_1 _ _) 0).trans (rcd_0 h.2.1)⟩, Rl_chg h hb hm hr (ends_1 _ _) (fun j hj => ends_j _ _ hj)⟩
      exact days_val hρ a
    · rw [if_neg c_2, if_neg (fun q => c_2 (i_2.mpr q))]
      exact ⟨Or.inr (Or.inr (⟨rfl, rfl⟩)), Rl_f h 2⟩
  · rw [if_neg c_1, if_neg (fun q => c_1 (i_1.mpr q))]
    exact ⟨Or.inr (Or.inl ⟨rfl, rfl⟩), Rl_f h 1⟩
theorem sh_start : sH_start Rl := by
  intro β τ γ η σ θ μ a h
  have hρ := AL_rec h.1 h.2.1
  have hvρ := vM_rec h.2.1
  unfold fX6_start fX7_start
  have i_1 : (fX0_hasTicket β a = true) ↔ (fX7_isTicket (sI μ 0 0) a = true) := iT h.1 a
  by_cases c_1 : fX0_hasTicket β a = true
  · rw [if_pos c_1, if_pos (i_1.mp c_1)]
    obtain ⟨e_a, t_a⟩ := tick h.1 c_1
    have r_a : a.toNatClampNeg < cM (fX7_records (sI μ 0 0)) := by rw [← hρ.n, h.1.n]; exact t_a
    have i_2 : (fX0_canStart β a.toNatClampNeg = true) ↔ (fX7_canStart (sI μ 0 0) a.toNatClampNeg = true) := iStart h.1 t_a
    by_cases c_2 : fX0_canStart β a.toNatClampNeg = true
    · rw [if_pos c_2, if_pos (i_2.mp c_2)]
      have hb : vB _ := h.1.1
      have hr := state1_RB hρ r_a (left_0 (of_row (rec_s h.2.1) _ _) (start_0 (i_2.mp c_2)) (by decide))
      have hm := vM_layD (t := a.toNatClampNeg) (w := 2) (v := 1) hvρ rfl
      exact ⟨Or.inl ⟨rfl, rcd_0 h.2.1⟩, Rl_chg h hb hm hr rfl (fun j hj => lay_j hj)⟩
    · rw [if_neg c_2, if_neg (fun q => c_2 (i_2.mpr q))]
      exact ⟨Or.inr (Or.inr (⟨rfl, rfl⟩)), Rl_f h 2⟩
  · rw [if_neg c_1, if_neg (fun q => c_1 (i_1.mpr q))]
    exact ⟨Or.inr (Or.inl ⟨rfl, rfl⟩), Rl_f h 1⟩
theorem sh_submit : sH_submit Rl := by
  intro β τ γ η σ θ μ a h
  have hρ := AL_rec h.1 h.2.1
  have hvρ := vM_rec h.2.1
  unfold fX6_submit fX7_submit
  have i_1 : (fX0_hasTicket β a = true) ↔ (fX7_isTicket (sI μ 0 0) a = true) := iT h.1 a
  by_cases c_1 : fX0_hasTicket β a = true
  · rw [if_pos c_1, if_pos (i_1.mp c_1)]
    obtain ⟨e_a, t_a⟩ := tick h.1 c_1
    have r_a : a.toNatClampNeg < cM (fX7_records (sI μ 0 0)) := by rw [← hρ.n, h.1.n]; exact t_a
    have i_2 : (β.2 0 a.toNatClampNeg = 1) ↔ (fX7_of (sI μ 0 0) a.toNatClampNeg 2 = 1) := by rw [h.1.st t_a]; exact Iff.rfl
    by_cases c_2 : β.2 0 a.toNatClampNeg = 1
    · rw [if_pos c_2, if_pos (i_2.mp c_2)]
      have hb : vB _ := h.1.1
      have hr := state2_RB hρ r_a (left_0 (of_row (rec_s h.2.1) _ _) (i_2.mp c_2) (by decide))
      have hm := vM_layD (t := a.toNatClampNeg) (w := 2) (v := 2) hvρ rfl
      exact ⟨Or.inl ⟨rfl, rcd_0 h.2.1⟩, Rl_chg h hb hm hr rfl (fun j hj => lay_j hj)⟩
    · rw [if_neg c_2, if_neg (fun q => c_2 (i_2.mpr q))]
      exact ⟨Or.inr (Or.inr (⟨rfl, rfl⟩)), Rl_f h 2⟩
  · rw [if_neg c_1, if_neg (fun q => c_1 (i_1.mpr q))]
    exact ⟨Or.inr (Or.inl ⟨rfl, rfl⟩), Rl_f h 1⟩
theorem sh_sendBack : sH_sendBack Rl := by
  intro β τ γ η σ θ μ a h
  have hρ := AL_rec h.1 h.2.1
  have hvρ := vM_rec h.2.1
  unfold fX6_sendBack fX7_sendBack
  have i_1 : (fX0_hasTicket β a = true) ↔ (fX7_isTicket (sI μ 0 0) a = true) := iT h.1 a
  by_cases c_1 : fX0_hasTicket β a = true
  · rw [if_pos c_1, if_pos (i_1.mp c_1)]
    obtain ⟨e_a, t_a⟩ := tick h.1 c_1
    have r_a : a.toNatClampNeg < cM (fX7_records (sI μ 0 0)) := by rw [← hρ.n, h.1.n]; exact t_a
    have i_2 : (β.2 0 a.toNatClampNeg = 2) ↔ (fX7_of (sI μ 0 0) a.toNatClampNeg 2 = 2) := by rw [h.1.st t_a]; exact Iff.rfl
    by_cases c_2 : β.2 0 a.toNatClampNeg = 2
    · rw [if_pos c_2, if_pos (i_2.mp c_2)]
      have hb : vB _ := vB_putBack (t := a.toNatClampNeg) h.1.1
      have hr := putBack_RBx hρ r_a (left_0 (of_row (rec_s h.2.1) _ _) (i_2.mp c_2) (by decide))
      have hm := vM_backx (t := a.toNatClampNeg) hvρ
      refine ⟨Or.inl ⟨congrArg Sum.inr ?_, rcd_0 h.2.1⟩, Rl_chg h hb hm hr rfl (fun j hj => (lay_j hj).trans (lay_j hj))⟩
      exact back_val hρ r_a
    · rw [if_neg c_2, if_neg (fun q => c_2 (i_2.mpr q))]
      exact ⟨Or.inr (Or.inr (⟨rfl, rfl⟩)), Rl_f h 2⟩
  · rw [if_neg c_1, if_neg (fun q => c_1 (i_1.mpr q))]
    exact ⟨Or.inr (Or.inl ⟨rfl, rfl⟩), Rl_f h 1⟩
theorem sh_close : sH_close Rl := by
  intro β τ γ η σ θ μ a h
  have hρ := AL_rec h.1 h.2.1
  have hvρ := vM_rec h.2.1
  unfold fX6_close fX7_close
  have i_1 : (fX0_hasTicket β a = true) ↔ (fX7_isTicket (sI μ 0 0) a = true) := iT h.1 a
  by_cases c_1 : fX0_hasTicket β a = true
  · rw [if_pos c_1, if_pos (i_1.mp c_1)]
    obtain ⟨e_a, t_a⟩ := tick h.1 c_1
    have r_a : a.toNatClampNeg < cM (fX7_records (sI μ 0 0)) := by rw [← hρ.n, h.1.n]; exact t_a
    have i_2 : (fX0_canClose β a.toNatClampNeg = true) ↔ (fX7_canClose (sI μ 0 0) a.toNatClampNeg = true) := iClose h.1 t_a
    by_cases c_2 : fX0_canClose β a.toNatClampNeg = true
    · rw [if_pos c_2, if_pos (i_2.mp c_2)]
      have hl : fX7_isLeft (fX7_records (sI μ 0 0)) a.toNatClampNeg = true := left_0 (of_row (rec_s h.2.1) _ _) (close_2 (i_2.mp c_2)) (by decide)
      have hb : vB _ := vB_finish (t := a.toNatClampNeg) h.1.1
      have hr := finish_RBx hρ r_a hl
      have hm := vM_closesx (t := a.toNatClampNeg) hvρ
      refine ⟨Or.inl ⟨congrArg Sum.inr ?_, rcd_0 h.2.1⟩, Rl_chg h hb hm hr rfl (fun j hj => (sE_r hj).trans ((lay_j hj).trans (lay_j hj)))⟩
      exact close_val hρ r_a hl (⟨hb, hm.1, hr⟩ : AL _ _)
    · rw [if_neg c_2, if_neg (fun q => c_2 (i_2.mpr q))]
      exact ⟨Or.inr (Or.inr (⟨rfl, rfl⟩)), Rl_f h 2⟩
  · rw [if_neg c_1, if_neg (fun q => c_1 (i_1.mpr q))]
    exact ⟨Or.inr (Or.inl ⟨rfl, rfl⟩), Rl_f h 1⟩
theorem sh_reopen : sH_reopen Rl := by
  intro β τ γ η σ θ μ a h
  have hρ := AL_rec h.1 h.2.1
  have hvρ := vM_rec h.2.1
  unfold fX6_reopen fX7_reopen
  have i_1 : (fX0_hasTicket β a = true) ↔ (fX7_isTicket (sI μ 0 0) a = true) := iT h.1 a
  by_cases c_1 : fX0_hasTicket β a = true
  · rw [if_pos c_1, if_pos (i_1.mp c_1)]
    obtain ⟨e_a, t_a⟩ := tick h.1 c_1
    have r_a : a.toNatClampNeg < cM (fX7_records (sI μ 0 0)) := by rw [← hρ.n, h.1.n]; exact t_a
    have i_2 : (fX0_canReopen β a.toNatClampNeg = true) ↔ (fX7_canReopen (sI μ 0 0) a.toNatClampNeg = true) := iReopen h.1 t_a
    by_cases c_2 : fX0_canReopen β a.toNatClampNeg = true
    · rw [if_pos c_2, if_pos (i_2.mp c_2)]
      have hl : fX7_of (fX7_records (sI μ 0 0)) a.toNatClampNeg 2 = 3 := (of_row (rec_s h.2.1) _ _).trans (reopen_3 h.1 t_a c_2)
      have hb : vB _ := vB_openAgain (t := a.toNatClampNeg) h.1.1
      have hr := openAgain_RBx hρ r_a hl
      have hm := vM_reopenx (t := a.toNatClampNeg) hvρ
      refine ⟨Or.inl ⟨congrArg Sum.inr ?_, rcd_0 h.2.1⟩, Rl_chg h hb hm hr rfl (fun j hj => (sE_r hj).trans ((lay_j hj).trans (lay_j hj)))⟩
      exact reopen_val hρ r_a hl (⟨hb, hm.1, hr⟩ : AL _ _)
    · rw [if_neg c_2, if_neg (fun q => c_2 (i_2.mpr q))]
      exact ⟨Or.inr (Or.inr (⟨rfl, rfl⟩)), Rl_f h 2⟩
  · rw [if_neg c_1, if_neg (fun q => c_1 (i_1.mpr q))]
    exact ⟨Or.inr (Or.inl ⟨rfl, rfl⟩), Rl_f h 1⟩
theorem sh_drop : sH_drop Rl := by
  intro β τ γ η σ θ μ a h
  have hρ := AL_rec h.1 h.2.1
  have hvρ := vM_rec h.2.1
  unfold fX6_drop fX7_drop
  have i_1 : (fX0_hasTicket β a = true) ↔ (fX7_isTicket (sI μ 0 0) a = true) := iT h.1 a
  by_cases c_1 : fX0_hasTicket β a = true
  · rw [if_pos c_1, if_pos (i_1.mp c_1)]
    obtain ⟨e_a, t_a⟩ := tick h.1 c_1
    have r_a : a.toNatClampNeg < cM (fX7_records (sI μ 0 0)) := by rw [← hρ.n, h.1.n]; exact t_a
    have i_2 : (fX0_isUnfinished β a.toNatClampNeg = true) ↔ (fX7_isLeft (sI μ 0 0) a.toNatClampNeg = true) := iU h.1 t_a
    by_cases c_2 : fX0_isUnfinished β a.toNatClampNeg = true
    · rw [if_pos c_2, if_pos (i_2.mp c_2)]
      have hl : fX7_isLeft (fX7_records (sI μ 0 0)) a.toNatClampNeg = true := by unfold fX7_isLeft; rw [of_row (rec_s h.2.1)]; exact i_2.mp c_2
      have hb : vB _ := vB_leaveOff (t := a.toNatClampNeg) (z := 4) h.1.1
      have hr := drop_RB hρ r_a hl
      have hm := vM_layD (t := a.toNatClampNeg) (w := 2) (v := 4) hvρ rfl
      refine ⟨Or.inl ⟨congrArg Sum.inr ?_, rcd_0 h.2.1⟩, Rl_chg h hb hm hr rfl (fun j hj => lay_j hj)⟩
      exact drop_val hρ r_a hl (⟨hb, hm.1, hr⟩ : AL _ _)
    · rw [if_neg c_2, if_neg (fun q => c_2 (i_2.mpr q))]
      exact ⟨Or.inr (Or.inr (⟨rfl, rfl⟩)), Rl_f h 2⟩
  · rw [if_neg c_1, if_neg (fun q => c_1 (i_1.mpr q))]
    exact ⟨Or.inr (Or.inl ⟨rfl, rfl⟩), Rl_f h 1⟩
theorem sh_reestimate : sH_reestimate Rl := by
  intro β τ γ η σ θ μ a b h
  have hρ := AL_rec h.1 h.2.1
  have hvρ := vM_rec h.2.1
  unfold fX6_reestimate fX7_reestimate
  have i_1 := iT h.1 a
  by_cases c_1 : fX0_hasTicket β a = true
  · rw [if_pos c_1, if_pos (i_1.mp c_1)]
    obtain ⟨e_a, t_a⟩ := tick h.1 c_1
    have r_a : a.toNatClampNeg < cM (fX7_records (sI μ 0 0)) := by rw [← hρ.n, h.1.n]; exact t_a
    have i_2 : (fX6_within b 1 13 = true) ↔ (fX7_in b 1 13 = true) := Iff.rfl
    by_cases c_2 : fX6_within b 1 13 = true
    · rw [if_pos c_2, if_pos (i_2.mp c_2)]
      have i_3 := iU h.1 t_a
      have e4 : fX0_hasCapacity β (β.2 3 a.toNatClampNeg) (b - β.2 1 a.toNatClampNeg) = fX7_canTake (sI μ 0 0) ((fX7_of (sI μ 0 0) a.toNatClampNeg 3).toNatClampNeg) (b - (fX7_of (sI μ 0 0) a.toNatClampNeg 0)) := by rw [capOwn_eq h.1 t_a, h.1.pt t_a]; rfl
      have e5 : fX0_canHavePoints β a.toNatClampNeg b = if fX0_isUnfinished β a.toNatClampNeg = true then (if fX0_hasCapacity β (β.2 3 a.toNatClampNeg) (b - β.2 1 a.toNatClampNeg) = true then true else false) else false := rfl
      rw [e5]
      by_cases c_3 : fX0_isUnfinished β a.toNatClampNeg = true
      · rw [if_pos c_3, if_pos (i_3.mp c_3)]
        by_cases c_4 : fX0_hasCapacity β (β.2 3 a.toNatClampNeg) (b - β.2 1 a.toNatClampNeg) = true
        · rw [if_pos c_4, if_pos (e4.symm.trans c_4), if_pos rfl]
          have hb : vB _ := vB_setPoints (t := a.toNatClampNeg) (p := b) h.1.1
          have hr := points_RB hρ r_a (by unfold fX7_isLeft; rw [of_row (rec_s h.2.1)]; exact i_3.mp c_3) (in_nat (a := 1) (b := 13) (by decide) (by decide) (i_2.mp c_2))
          have hm := vM_layD (t := a.toNatClampNeg) (w := 0) (v := b) hvρ rfl
          refine ⟨Or.inl ⟨congrArg Sum.inr ?_, rcd_0 h.2.1⟩, Rl_chg h hb hm hr rfl (fun j hj => lay_j hj)⟩
          exact h.1.pt t_a
        · rw [if_neg c_4, if_neg (fun q => c_4 (e4.trans q)), if_neg (by decide)]
          exact ⟨Or.inr (Or.inr (Or.inr ⟨rfl, rfl⟩)), Rl_f h 3⟩
      · rw [if_neg c_3, if_neg (fun q => c_3 (i_3.mpr q)), if_neg (by decide)]
        exact ⟨Or.inr (Or.inr (Or.inr ⟨rfl, rfl⟩)), Rl_f h 3⟩
    · rw [if_neg c_2, if_neg (fun q => c_2 (i_2.mpr q))]
      exact ⟨Or.inr (Or.inr (Or.inl ⟨rfl, rfl⟩)), Rl_f h 2⟩
  · rw [if_neg c_1, if_neg (fun q => c_1 (i_1.mpr q))]
    exact ⟨Or.inr (Or.inl ⟨rfl, rfl⟩), Rl_f h 1⟩
