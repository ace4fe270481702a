/-! ===== act apart from the history ===== -/
def fM (β : BS) (t : Nat) : Option BS :=
  if (fT_stateOf β t) = 0 then (if (fT_hasOwner β t) = true then some (sE β 0 t 1) else none) else (if (fT_stateOf β t) = 1 then some (sE β 0 t 2) else (if (fT_stateOf β t) = 2 then (if (fT_isBlocked β t) = true then none else some (fX0_finish β t)) else none))
def fA (β : BS) (v : Int32) (x : Int32) : Option BS :=
  if (fT_tickets β) = 0 then (if (v &&& 15) = 0 then (if (fT_tickets β) = 7 then none else some (fX0_addTicket β (1 + (fL_low x 13)) (fL_low (x >>> (4 &&& 31)) 4)).2) else (if (v &&& 15) = 1 then none else (if (v &&& 15) = 2 then none else (if (v &&& 15) = 3 then none else (if (v &&& 15) = 4 then none else (if (v &&& 15) = 5 then none else (if (v &&& 15) = 6 then none else (if (v &&& 15) = 7 then none else (if (v &&& 15) = 8 then some (fX0_pass β (1 + (fL_low x 12))).2 else (if (v &&& 15) = 9 then some (fX0_setDate β ((fL_low x 4).toNatClampNeg) (fL_low (x >>> (2 &&& 31)) 60)).2 else none)))))))))) else (if (v &&& 15) = 0 then (if (fT_tickets β) = 7 then none else some (fX0_addTicket β (1 + (fL_low x 13)) (fL_low (x >>> (4 &&& 31)) 4)).2) else (if (v &&& 15) = 1 then (if (fL_low (v >>> (4 &&& 31)) (fT_tickets β)) < 0 then none else (if (fL_low (v >>> (4 &&& 31)) (fT_tickets β)) = (fL_low x (fT_tickets β)) then none else (if (2 : Int32) < (fT_stateOf β ((fL_low (v >>> (4 &&& 31)) (fT_tickets β)).toNatClampNeg)) then none else (if (fT_needs β ((fL_low (v >>> (4 &&& 31)) (fT_tickets β)).toNatClampNeg) ((fL_low x (fT_tickets β)).toNatClampNeg)) = true then none else (if (fL_reaches β ((fL_low x (fT_tickets β)).toNatClampNeg) ((fL_low (v >>> (4 &&& 31)) (fT_tickets β)).toNatClampNeg)) = true then none else some (fX0_addNeed β ((fL_low (v >>> (4 &&& 31)) (fT_tickets β)).toNatClampNeg) (nI ((fL_low x (fT_tickets β)).toNatClampNeg))).2))))) else (if (v &&& 15) = 2 then (if (fL_low (v >>> (4 &&& 31)) (fT_tickets β)) < 0 then none else (if (fL_low (v >>> (4 &&& 31)) (fT_tickets β)) = (fL_low x (fT_tickets β)) then none else (if (2 : Int32) < (fT_stateOf β ((fL_low (v >>> (4 &&& 31)) (fT_tickets β)).toNatClampNeg)) then none else (if (fT_needs β ((fL_low (v >>> (4 &&& 31)) (fT_tickets β)).toNatClampNeg) ((fL_low x (fT_tickets β)).toNatClampNeg)) = true then none else (if (fL_reaches β ((fL_low x (fT_tickets β)).toNatClampNeg) ((fL_low (v >>> (4 &&& 31)) (fT_tickets β)).toNatClampNeg)) = true then none else some (fX0_addNeed β ((fL_low (v >>> (4 &&& 31)) (fT_tickets β)).toNatClampNeg) (nI ((fL_low x (fT_tickets β)).toNatClampNeg))).2))))) else (if (v &&& 15) = 3 then (if (fL_low (v >>> (4 &&& 31)) (fT_tickets β)) < 0 then none else (if (fL_low (v >>> (4 &&& 31)) (fT_tickets β)) = (fL_low x (fT_tickets β)) then none else (if (2 : Int32) < (fT_stateOf β ((fL_low (v >>> (4 &&& 31)) (fT_tickets β)).toNatClampNeg)) then none else (if (fT_needs β ((fL_low (v >>> (4 &&& 31)) (fT_tickets β)).toNatClampNeg) ((fL_low x (fT_tickets β)).toNatClampNeg)) = true then none else (if (fL_reaches β ((fL_low x (fT_tickets β)).toNatClampNeg) ((fL_low (v >>> (4 &&& 31)) (fT_tickets β)).toNatClampNeg)) = true then none else some (fX0_addNeed β ((fL_low (v >>> (4 &&& 31)) (fT_tickets β)).toNatClampNeg) (nI ((fL_low x (fT_tickets β)).toNatClampNeg))).2))))) else (if (v &&& 15) = 4 then (if (fL_low (v >>> (4 &&& 31)) (fT_tickets β)) < 0 then none else (if (2 : Int32) < (fT_stateOf β ((fL_low (v >>> (4 &&& 31)) (fT_tickets β)).toNatClampNeg)) then none else (if (fT_hasOwner β ((fL_low (v >>> (4 &&& 31)) (fT_tickets β)).toNatClampNeg)) = true then (if (fT_ownerOf β ((fL_low (v >>> (4 &&& 31)) (fT_tickets β)).toNatClampNeg)) = (fL_low x 5) then none else (if ((fT_loadByTickets β ((fL_low x 5).toNatClampNeg)) + (fT_pointsOf β ((fL_low (v >>> (4 &&& 31)) (fT_tickets β)).toNatClampNeg))) ≤ (fT_capacityOf β ((fL_low x 5).toNatClampNeg)) then some (fX0_giveTo β ((fL_low (v >>> (4 &&& 31)) (fT_tickets β)).toNatClampNeg) ((fL_low x 5).toNatClampNeg)).2 else none)) else (if ((fT_loadByTickets β ((fL_low x 5).toNatClampNeg)) + (fT_pointsOf β ((fL_low (v >>> (4 &&& 31)) (fT_tickets β)).toNatClampNeg))) ≤ (fT_capacityOf β ((fL_low x 5).toNatClampNeg)) then some (fX0_giveTo β ((fL_low (v >>> (4 &&& 31)) (fT_tickets β)).toNatClampNeg) ((fL_low x 5).toNatClampNeg)).2 else none)))) else (if (v &&& 15) = 5 then (if (fL_low (v >>> (4 &&& 31)) (fT_tickets β)) < 0 then none else (if (2 : Int32) < (fT_stateOf β ((fL_low (v >>> (4 &&& 31)) (fT_tickets β)).toNatClampNeg)) then none else (if (fT_hasOwner β ((fL_low (v >>> (4 &&& 31)) (fT_tickets β)).toNatClampNeg)) = true then (if (fT_ownerOf β ((fL_low (v >>> (4 &&& 31)) (fT_tickets β)).toNatClampNeg)) = (fL_low x 5) then none else (if ((fT_loadByTickets β ((fL_low x 5).toNatClampNeg)) + (fT_pointsOf β ((fL_low (v >>> (4 &&& 31)) (fT_tickets β)).toNatClampNeg))) ≤ (fT_capacityOf β ((fL_low x 5).toNatClampNeg)) then some (fX0_giveTo β ((fL_low (v >>> (4 &&& 31)) (fT_tickets β)).toNatClampNeg) ((fL_low x 5).toNatClampNeg)).2 else none)) else (if ((fT_loadByTickets β ((fL_low x 5).toNatClampNeg)) + (fT_pointsOf β ((fL_low (v >>> (4 &&& 31)) (fT_tickets β)).toNatClampNeg))) ≤ (fT_capacityOf β ((fL_low x 5).toNatClampNeg)) then some (fX0_giveTo β ((fL_low (v >>> (4 &&& 31)) (fT_tickets β)).toNatClampNeg) ((fL_low x 5).toNatClampNeg)).2 else none)))) else (if (v &&& 15) = 6 then (if (fL_low (v >>> (4 &&& 31)) (fT_tickets β)) < 0 then none else (if (2 : Int32) < (fT_stateOf β ((fL_low (v >>> (4 &&& 31)) (fT_tickets β)).toNatClampNeg)) then none else (if (fT_isPlanned β ((fL_low (v >>> (4 &&& 31)) (fT_tickets β)).toNatClampNeg)) = true then (if (fT_milestoneOf β ((fL_low (v >>> (4 &&& 31)) (fT_tickets β)).toNatClampNeg)) = (fL_low x 4) then none else some (sE β 4 ((fL_low (v >>> (4 &&& 31)) (fT_tickets β)).toNatClampNeg) (nI ((fL_low x 4).toNatClampNeg)))) else some (sE β 4 ((fL_low (v >>> (4 &&& 31)) (fT_tickets β)).toNatClampNeg) (nI ((fL_low x 4).toNatClampNeg)))))) else (if (v &&& 15) = 7 then (if (fL_low (v >>> (4 &&& 31)) (fT_tickets β)) < 0 then none else (if (2 : Int32) < (fT_stateOf β ((fL_low (v >>> (4 &&& 31)) (fT_tickets β)).toNatClampNeg)) then none else (if (x &&& 3) ≤ 0 then some (fX0_leaveOff β ((fL_low (v >>> (4 &&& 31)) (fT_tickets β)).toNatClampNeg) 4) else none))) else (if (v &&& 15) = 8 then some (fX0_pass β (1 + (fL_low x 12))).2 else (if (v &&& 15) = 9 then some (fX0_setDate β ((fL_low x 4).toNatClampNeg) (fL_low (x >>> (2 &&& 31)) 60)).2 else (if (fL_low (v >>> (4 &&& 31)) (fT_tickets β)) < 0 then none else fM β ((fL_low (v >>> (4 &&& 31)) (fT_tickets β)).toNatClampNeg))))))))))))
def toR (η : BS) (σ : Nat → BS) (β : BS) (z : Option BS) : Bool × BS × BS × (Nat → BS) :=
  match z with
  | none => (false, β, η, σ)
  | some b => (true, b, (fX3_save η σ β).1, (fX3_save η σ β).2)
theorem toR_ite {η : BS} {σ : Nat → BS} {β : BS} {c : Prop} [Decidable c] (a b : Option BS) : toR η σ β (if c then a else b) = if c then toR η σ β a else toR η σ β b := by split <;> rfl
theorem move_R (β η : BS) (σ : Nat → BS) (t : Nat) : fL_move β η σ t = toR η σ β (fM β t) := by
  unfold fL_move fM
  simp only [toR_ite]
  rfl
theorem act_mv (β η : BS) (σ : Nat → BS) (t : Nat) : (if (fL_move β η σ t).1 = true then (true, (fL_move β η σ t).2.1, (fL_move β η σ t).2.2.1, (fL_move β η σ t).2.2.2) else (false, (fL_move β η σ t).2.1, (fL_move β η σ t).2.2.1, (fL_move β η σ t).2.2.2)) = toR η σ β (fM β t) := by
  rw [move_R]
  cases fM β t <;> rfl
set_option maxHeartbeats 4000000 in
set_option maxRecDepth 100000 in
theorem act_R (β η : BS) (σ : Nat → BS) (v x : Int32) : fL_act β η σ v x = toR η σ β (fA β v x) := by
  unfold fL_act fA
  simp only [toR_ite, act_mv]
  rfl
theorem inv_move {dd : Nat} {β β' : BS} {t : Nat} (hI : INV dd β) (ht : t < cnt β) (h : fM β t = some β') : INV dd β' := by
  unfold fM at h
  by_cases c_1 : (fT_stateOf β t) = 0
  · rw [if_pos c_1] at h
    by_cases c_2 : (fT_hasOwner β t) = true
    · rw [if_pos c_2] at h
      obtain rfl := Option.some.inj h
      exact inv_start hI ht c_1
    · rw [if_neg c_2] at h
      cases h
  · rw [if_neg c_1] at h
    by_cases c_3 : (fT_stateOf β t) = 1
    · rw [if_pos c_3] at h
      obtain rfl := Option.some.inj h
      exact inv_submit hI ht c_3
    · rw [if_neg c_3] at h
      by_cases c_4 : (fT_stateOf β t) = 2
      · rw [if_pos c_4] at h
        by_cases c_5 : (fT_isBlocked β t) = true
        · rw [if_pos c_5] at h
          cases h
        · rw [if_neg c_5] at h
          obtain rfl := Option.some.inj h
          exact inv_close hI ht c_4 c_5
      · rw [if_neg c_4] at h
        cases h
set_option maxHeartbeats 4000000 in
set_option maxRecDepth 100000 in
theorem inv_act {dd : Nat} {β β' : BS} {v x : Int32} (hI : INV dd β) (hd : dd ≤ 420) (h : fA β v x = some β') : INV (dd + 12) β' := by
  have hv := INV.v hI
  unfold fA at h
  by_cases c_6 : (fT_tickets β) = 0
  · rw [if_pos c_6] at h
    by_cases c_7 : (v &&& 15) = 0
    · rw [if_pos c_7] at h
      by_cases c_8 : (fT_tickets β) = 7
      · rw [if_pos c_8] at h
        cases h
      · rw [if_neg c_8] at h
        obtain rfl := Option.some.inj h
        exact (inv_open hI c_8 (open_p x)).mono (by omega)
    · rw [if_neg c_7] at h
      by_cases c_9 : (v &&& 15) = 1
      · rw [if_pos c_9] at h
        cases h
      · rw [if_neg c_9] at h
        by_cases c_10 : (v &&& 15) = 2
        · rw [if_pos c_10] at h
          cases h
        · rw [if_neg c_10] at h
          by_cases c_11 : (v &&& 15) = 3
          · rw [if_pos c_11] at h
            cases h
          · rw [if_neg c_11] at h
            by_cases c_12 : (v &&& 15) = 4
            · rw [if_pos c_12] at h
              cases h
            · rw [if_neg c_12] at h
              by_cases c_13 : (v &&& 15) = 5
              · rw [if_pos c_13] at h
                cases h
              · rw [if_neg c_13] at h
                by_cases c_14 : (v &&& 15) = 6
                · rw [if_pos c_14] at h
                  cases h
                · rw [if_neg c_14] at h
                  by_cases c_15 : (v &&& 15) = 7
                  · rw [if_pos c_15] at h
                    cases h
                  · rw [if_neg c_15] at h
                    by_cases c_16 : (v &&& 15) = 8
                    · rw [if_pos c_16] at h
                      obtain rfl := Option.some.inj h
                      exact inv_days hI hd
                    · rw [if_neg c_16] at h
                      by_cases c_17 : (v &&& 15) = 9
                      · rw [if_pos c_17] at h
                        obtain rfl := Option.some.inj h
                        exact (inv_date hI (low_c (x := x) (z := 4) (n := 4) rfl (by decide) (by decide)).2).mono (by omega)
                      · rw [if_neg c_17] at h
                        cases h
  · rw [if_neg c_6] at h
    by_cases c_18 : (v &&& 15) = 0
    · rw [if_pos c_18] at h
      by_cases c_19 : (fT_tickets β) = 7
      · rw [if_pos c_19] at h
        cases h
      · rw [if_neg c_19] at h
        obtain rfl := Option.some.inj h
        exact (inv_open hI c_19 (open_p x)).mono (by omega)
    · rw [if_neg c_18] at h
      by_cases c_20 : (v &&& 15) = 1
      · rw [if_pos c_20] at h
        by_cases c_21 : (fL_low (v >>> (4 &&& 31)) (fT_tickets β)) < 0
        · rw [if_pos c_21] at h
          cases h
        · rw [if_neg c_21] at h
          by_cases c_22 : (fL_low (v >>> (4 &&& 31)) (fT_tickets β)) = (fL_low x (fT_tickets β))
          · rw [if_pos c_22] at h
            cases h
          · rw [if_neg c_22] at h
            by_cases c_23 : (2 : Int32) < (fT_stateOf β ((fL_low (v >>> (4 &&& 31)) (fT_tickets β)).toNatClampNeg))
            · rw [if_pos c_23] at h
              cases h
            · rw [if_neg c_23] at h
              by_cases c_24 : (fT_needs β ((fL_low (v >>> (4 &&& 31)) (fT_tickets β)).toNatClampNeg) ((fL_low x (fT_tickets β)).toNatClampNeg)) = true
              · rw [if_pos c_24] at h
                cases h
              · rw [if_neg c_24] at h
                by_cases c_25 : (fL_reaches β ((fL_low x (fT_tickets β)).toNatClampNeg) ((fL_low (v >>> (4 &&& 31)) (fT_tickets β)).toNatClampNeg)) = true
                · rw [if_pos c_25] at h
                  cases h
                · rw [if_neg c_25] at h
                  obtain rfl := Option.some.inj h
                  exact (inv_need hI (low_t (x := v >>> (4 &&& 31)) hv c_6).2 (low_t (x := x) hv c_6).2 (fun q => c_22 ((low_t (x := v >>> (4 &&& 31)) hv c_6).1.trans ((congrArg nI q).trans (low_t (x := x) hv c_6).1.symm))) c_23 (tf_of c_24) (tf_of c_25)).mono (by omega)
      · rw [if_neg c_20] at h
        by_cases c_26 : (v &&& 15) = 2
        · rw [if_pos c_26] at h
          by_cases c_27 : (fL_low (v >>> (4 &&& 31)) (fT_tickets β)) < 0
          · rw [if_pos c_27] at h
            cases h
          · rw [if_neg c_27] at h
            by_cases c_28 : (fL_low (v >>> (4 &&& 31)) (fT_tickets β)) = (fL_low x (fT_tickets β))
            · rw [if_pos c_28] at h
              cases h
            · rw [if_neg c_28] at h
              by_cases c_29 : (2 : Int32) < (fT_stateOf β ((fL_low (v >>> (4 &&& 31)) (fT_tickets β)).toNatClampNeg))
              · rw [if_pos c_29] at h
                cases h
              · rw [if_neg c_29] at h
                by_cases c_30 : (fT_needs β ((fL_low (v >>> (4 &&& 31)) (fT_tickets β)).toNatClampNeg) ((fL_low x (fT_tickets β)).toNatClampNeg)) = true
                · rw [if_pos c_30] at h
                  cases h
                · rw [if_neg c_30] at h
                  by_cases c_31 : (fL_reaches β ((fL_low x (fT_tickets β)).toNatClampNeg) ((fL_low (v >>> (4 &&& 31)) (fT_tickets β)).toNatClampNeg)) = true
                  · rw [if_pos c_31] at h
                    cases h
                  · rw [if_neg c_31] at h
                    obtain rfl := Option.some.inj h
                    exact (inv_need hI (low_t (x := v >>> (4 &&& 31)) hv c_6).2 (low_t (x := x) hv c_6).2 (fun q => c_28 ((low_t (x := v >>> (4 &&& 31)) hv c_6).1.trans ((congrArg nI q).trans (low_t (x := x) hv c_6).1.symm))) c_29 (tf_of c_30) (tf_of c_31)).mono (by omega)
        · rw [if_neg c_26] at h
          by_cases c_32 : (v &&& 15) = 3
          · rw [if_pos c_32] at h
            by_cases c_33 : (fL_low (v >>> (4 &&& 31)) (fT_tickets β)) < 0
            · rw [if_pos c_33] at h
              cases h
            · rw [if_neg c_33] at h
              by_cases c_34 : (fL_low (v >>> (4 &&& 31)) (fT_tickets β)) = (fL_low x (fT_tickets β))
              · rw [if_pos c_34] at h
                cases h
              · rw [if_neg c_34] at h
                by_cases c_35 : (2 : Int32) < (fT_stateOf β ((fL_low (v >>> (4 &&& 31)) (fT_tickets β)).toNatClampNeg))
                · rw [if_pos c_35] at h
                  cases h
                · rw [if_neg c_35] at h
                  by_cases c_36 : (fT_needs β ((fL_low (v >>> (4 &&& 31)) (fT_tickets β)).toNatClampNeg) ((fL_low x (fT_tickets β)).toNatClampNeg)) = true
                  · rw [if_pos c_36] at h
                    cases h
                  · rw [if_neg c_36] at h
                    by_cases c_37 : (fL_reaches β ((fL_low x (fT_tickets β)).toNatClampNeg) ((fL_low (v >>> (4 &&& 31)) (fT_tickets β)).toNatClampNeg)) = true
                    · rw [if_pos c_37] at h
                      cases h
                    · rw [if_neg c_37] at h
                      obtain rfl := Option.some.inj h
                      exact (inv_need hI (low_t (x := v >>> (4 &&& 31)) hv c_6).2 (low_t (x := x) hv c_6).2 (fun q => c_34 ((low_t (x := v >>> (4 &&& 31)) hv c_6).1.trans ((congrArg nI q).trans (low_t (x := x) hv c_6).1.symm))) c_35 (tf_of c_36) (tf_of c_37)).mono (by omega)
          · rw [if_neg c_32] at h
            by_cases c_38 : (v &&& 15) = 4
            · rw [if_pos c_38] at h
              by_cases c_39 : (fL_low (v >>> (4 &&& 31)) (fT_tickets β)) < 0
              · rw [if_pos c_39] at h
                cases h
              · rw [if_neg c_39] at h
                by_cases c_40 : (2 : Int32) < (fT_stateOf β ((fL_low (v >>> (4 &&& 31)) (fT_tickets β)).toNatClampNeg))
                · rw [if_pos c_40] at h
                  cases h
                · rw [if_neg c_40] at h
                  by_cases c_41 : (fT_hasOwner β ((fL_low (v >>> (4 &&& 31)) (fT_tickets β)).toNatClampNeg)) = true
                  · rw [if_pos c_41] at h
                    by_cases c_42 : (fT_ownerOf β ((fL_low (v >>> (4 &&& 31)) (fT_tickets β)).toNatClampNeg)) = (fL_low x 5)
                    · rw [if_pos c_42] at h
                      cases h
                    · rw [if_neg c_42] at h
                      by_cases c_43 : ((fT_loadByTickets β ((fL_low x 5).toNatClampNeg)) + (fT_pointsOf β ((fL_low (v >>> (4 &&& 31)) (fT_tickets β)).toNatClampNeg))) ≤ (fT_capacityOf β ((fL_low x 5).toNatClampNeg))
                      · rw [if_pos c_43] at h
                        obtain rfl := Option.some.inj h
                        exact (inv_give hI (low_t (x := v >>> (4 &&& 31)) hv c_6).2 (low_c (x := x) (z := 5) (n := 5) rfl (by decide) (by decide)).2 c_40 (fun q => c_42 (q.trans (low_c (x := x) (z := 5) (n := 5) rfl (by decide) (by decide)).1.symm)) c_43).mono (by omega)
                      · rw [if_neg c_43] at h
                        cases h
                  · rw [if_neg c_41] at h
                    by_cases c_44 : ((fT_loadByTickets β ((fL_low x 5).toNatClampNeg)) + (fT_pointsOf β ((fL_low (v >>> (4 &&& 31)) (fT_tickets β)).toNatClampNeg))) ≤ (fT_capacityOf β ((fL_low x 5).toNatClampNeg))
                    · rw [if_pos c_44] at h
                      obtain rfl := Option.some.inj h
                      exact (inv_give hI (low_t (x := v >>> (4 &&& 31)) hv c_6).2 (low_c (x := x) (z := 5) (n := 5) rfl (by decide) (by decide)).2 c_40 (own_none (tf_of c_41) (low_c (x := x) (z := 5) (n := 5) rfl (by decide) (by decide)).2) c_44).mono (by omega)
                    · rw [if_neg c_44] at h
                      cases h
            · rw [if_neg c_38] at h
              by_cases c_45 : (v &&& 15) = 5
              · rw [if_pos c_45] at h
                by_cases c_46 : (fL_low (v >>> (4 &&& 31)) (fT_tickets β)) < 0
                · rw [if_pos c_46] at h
                  cases h
                · rw [if_neg c_46] at h
                  by_cases c_47 : (2 : Int32) < (fT_stateOf β ((fL_low (v >>> (4 &&& 31)) (fT_tickets β)).toNatClampNeg))
                  · rw [if_pos c_47] at h
                    cases h
                  · rw [if_neg c_47] at h
                    by_cases c_48 : (fT_hasOwner β ((fL_low (v >>> (4 &&& 31)) (fT_tickets β)).toNatClampNeg)) = true
                    · rw [if_pos c_48] at h
                      by_cases c_49 : (fT_ownerOf β ((fL_low (v >>> (4 &&& 31)) (fT_tickets β)).toNatClampNeg)) = (fL_low x 5)
                      · rw [if_pos c_49] at h
                        cases h
                      · rw [if_neg c_49] at h
                        by_cases c_50 : ((fT_loadByTickets β ((fL_low x 5).toNatClampNeg)) + (fT_pointsOf β ((fL_low (v >>> (4 &&& 31)) (fT_tickets β)).toNatClampNeg))) ≤ (fT_capacityOf β ((fL_low x 5).toNatClampNeg))
                        · rw [if_pos c_50] at h
                          obtain rfl := Option.some.inj h
                          exact (inv_give hI (low_t (x := v >>> (4 &&& 31)) hv c_6).2 (low_c (x := x) (z := 5) (n := 5) rfl (by decide) (by decide)).2 c_47 (fun q => c_49 (q.trans (low_c (x := x) (z := 5) (n := 5) rfl (by decide) (by decide)).1.symm)) c_50).mono (by omega)
                        · rw [if_neg c_50] at h
                          cases h
                    · rw [if_neg c_48] at h
                      by_cases c_51 : ((fT_loadByTickets β ((fL_low x 5).toNatClampNeg)) + (fT_pointsOf β ((fL_low (v >>> (4 &&& 31)) (fT_tickets β)).toNatClampNeg))) ≤ (fT_capacityOf β ((fL_low x 5).toNatClampNeg))
                      · rw [if_pos c_51] at h
                        obtain rfl := Option.some.inj h
                        exact (inv_give hI (low_t (x := v >>> (4 &&& 31)) hv c_6).2 (low_c (x := x) (z := 5) (n := 5) rfl (by decide) (by decide)).2 c_47 (own_none (tf_of c_48) (low_c (x := x) (z := 5) (n := 5) rfl (by decide) (by decide)).2) c_51).mono (by omega)
                      · rw [if_neg c_51] at h
                        cases h
              · rw [if_neg c_45] at h
                by_cases c_52 : (v &&& 15) = 6
                · rw [if_pos c_52] at h
                  by_cases c_53 : (fL_low (v >>> (4 &&& 31)) (fT_tickets β)) < 0
                  · rw [if_pos c_53] at h
                    cases h
                  · rw [if_neg c_53] at h
                    by_cases c_54 : (2 : Int32) < (fT_stateOf β ((fL_low (v >>> (4 &&& 31)) (fT_tickets β)).toNatClampNeg))
                    · rw [if_pos c_54] at h
                      cases h
                    · rw [if_neg c_54] at h
                      by_cases c_55 : (fT_isPlanned β ((fL_low (v >>> (4 &&& 31)) (fT_tickets β)).toNatClampNeg)) = true
                      · rw [if_pos c_55] at h
                        by_cases c_56 : (fT_milestoneOf β ((fL_low (v >>> (4 &&& 31)) (fT_tickets β)).toNatClampNeg)) = (fL_low x 4)
                        · rw [if_pos c_56] at h
                          cases h
                        · rw [if_neg c_56] at h
                          obtain rfl := Option.some.inj h
                          exact (inv_plan hI (low_t (x := v >>> (4 &&& 31)) hv c_6).2 (low_c (x := x) (z := 4) (n := 4) rfl (by decide) (by decide)).2).mono (by omega)
                      · rw [if_neg c_55] at h
                        obtain rfl := Option.some.inj h
                        exact (inv_plan hI (low_t (x := v >>> (4 &&& 31)) hv c_6).2 (low_c (x := x) (z := 4) (n := 4) rfl (by decide) (by decide)).2).mono (by omega)
                · rw [if_neg c_52] at h
                  by_cases c_57 : (v &&& 15) = 7
                  · rw [if_pos c_57] at h
                    by_cases c_58 : (fL_low (v >>> (4 &&& 31)) (fT_tickets β)) < 0
                    · rw [if_pos c_58] at h
                      cases h
                    · rw [if_neg c_58] at h
                      by_cases c_59 : (2 : Int32) < (fT_stateOf β ((fL_low (v >>> (4 &&& 31)) (fT_tickets β)).toNatClampNeg))
                      · rw [if_pos c_59] at h
                        cases h
                      · rw [if_neg c_59] at h
                        by_cases c_60 : (x &&& 3) ≤ 0
                        · rw [if_pos c_60] at h
                          obtain rfl := Option.some.inj h
                          exact (inv_drop hI (low_t (x := v >>> (4 &&& 31)) hv c_6).2 c_59).mono (by omega)
                        · rw [if_neg c_60] at h
                          cases h
                  · rw [if_neg c_57] at h
                    by_cases c_61 : (v &&& 15) = 8
                    · rw [if_pos c_61] at h
                      obtain rfl := Option.some.inj h
                      exact inv_days hI hd
                    · rw [if_neg c_61] at h
                      by_cases c_62 : (v &&& 15) = 9
                      · rw [if_pos c_62] at h
                        obtain rfl := Option.some.inj h
                        exact (inv_date hI (low_c (x := x) (z := 4) (n := 4) rfl (by decide) (by decide)).2).mono (by omega)
                      · rw [if_neg c_62] at h
                        by_cases c_63 : (fL_low (v >>> (4 &&& 31)) (fT_tickets β)) < 0
                        · rw [if_pos c_63] at h
                          cases h
                        · rw [if_neg c_63] at h
                          exact (inv_move hI (low_t (x := v >>> (4 &&& 31)) hv c_6).2 h).mono (by omega)
