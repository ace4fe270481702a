/-! ===== what the calls of the law require, told by the board ===== -/
theorem hasT_n {β : BS} {t : Nat} (hv : vB β) (ht : t < cnt β) : (fX0_hasTicket β (nI t)) = true := by
  have h1 := hv.1
  unfold fX0_hasTicket
  rw [if_neg (nI_pos (by omega)), if_neg (lc_nle rfl hv.2.1 ht (by omega))]
theorem wi_n {v a b : Int32} {k p q : Nat} (hv : v = nI k) (ha : a = nI p) (hb : b = nI q) (h1 : p ≤ k) (h2 : k ≤ q) (hq : q < 2 ^ 31) : (fX6_within v a b) = true := by
  unfold fX6_within
  rw [if_neg (lc_nlt hv ha h1 (by omega)), if_neg (lc_nlt hb hv h2 hq)]
theorem own_n {o : Nat} (h : o < 5) : (fX6_isOwner (nI o)) = true := wi_n rfl nI_l0 nI_l4 (by omega) (by omega) (by decide)
theorem mil_n {o : Nat} (h : o < 4) : (fX6_isMilestone (nI o)) = true := wi_n rfl nI_l0 nI_l3 (by omega) (by omega) (by decide)
theorem with_n {o : Nat} (h : o < 5) : (fX6_within (nI o) 0 4) = true := wi_n rfl nI_l0 nI_l4 (by omega) (by omega) (by decide)
theorem room_n {β : BS} (hv : vB β) (h : cnt β < 20) : (fX0_hasRoom β) = true := by
  unfold fX0_hasRoom
  rw [if_neg (lc_nle hv.2.1 nI_l20 h (by omega))]
theorem hasOwner_ne {β : BS} {t : Nat} (h : (fT_hasOwner β t) = true) : ¬ (β.2 3 t) = (-1) := fun q => by
  unfold fT_hasOwner at h
  rw [if_pos q] at h
  cases h
theorem isPlanned_ne {β : BS} {t : Nat} (h : (fT_isPlanned β t) = true) : ¬ (β.2 4 t) = (-1) := fun q => by
  unfold fT_isPlanned at h
  rw [if_pos q] at h
  cases h
theorem own_none {β : BS} {t o : Nat} (h : (fT_hasOwner β t) = false) (ho : o < 5) : ¬ (β.2 3 t) = (nI o) := fun q => by
  unfold fT_hasOwner at h
  rw [if_neg (fun q2 => by rw [q] at q2; exact absurd ((Int32.lt_iff_toInt_lt).mpr (by rw [q2]; decide) : nI o < 0) (nI_pos (by omega)))] at h
  cases h
theorem mil_none {β : BS} {t o : Nat} (h : (fT_isPlanned β t) = false) (ho : o < 4) : ¬ (β.2 4 t) = (nI o) := fun q => by
  unfold fT_isPlanned at h
  rw [if_neg (fun q2 => by rw [q] at q2; exact absurd ((Int32.lt_iff_toInt_lt).mpr (by rw [q2]; decide) : nI o < 0) (nI_pos (by omega)))] at h
  cases h
theorem start_of {β : BS} {t : Nat} (h1 : (fT_stateOf β t) = 0) (h2 : (fT_hasOwner β t) = true) : (fX0_canStart β t) = true := by
  unfold fX0_canStart
  rw [if_pos (show (β.2 0 t) = 0 from h1), if_neg (hasOwner_ne h2)]
theorem close_of {β : BS} {t : Nat} (h1 : (fT_stateOf β t) = 2) (h2 : (fT_isBlocked β t) = false) : (fX0_canClose β t) = true := by
  have h3 : (fX0_blockerSet β t) = 0 := Decidable.byContradiction fun q => by
    unfold fT_isBlocked at h2
    rw [if_neg q] at h2
    cases h2
  unfold fX0_canClose
  rw [if_pos (show (β.2 0 t) = 2 from h1), if_pos h3]
