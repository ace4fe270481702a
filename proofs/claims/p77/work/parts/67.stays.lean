/-! ===== what the law does to a board, and that INV stays ===== -/
theorem unf_congr {β β' : BS} {u : Nat} (h : β'.2 0 u = β.2 0 u) : fX0_isUnfinished β' u = fX0_isUnfinished β u := by
  unfold fX0_isUnfinished
  rw [h]
theorem CNB_of {β β' : BS} (h : CNB β) (hc : cnt β' = cnt β) (hcl : ∀ i, i < cnt β → β'.2 0 i = 3 → β.2 0 i = 3 ∨ ∀ u, u < cnt β → bt (β'.2 9 i) u = true → fX0_isUnfinished β' u = false) (h9 : ∀ i, i < cnt β → β.2 0 i = 3 → β'.2 9 i = β.2 9 i) (hu : ∀ u, u < cnt β → fX0_isUnfinished β u = false → fX0_isUnfinished β' u = false) : CNB β' := by
  intro t ht hs u hu2 q
  rw [hc] at ht hu2
  rcases hcl t ht hs with h1 | h1
  · rw [h9 t ht h1] at q
    exact hu u hu2 (h t ht h1 u hu2 q)
  · exact h1 u hu2 q
theorem CNB_same {β β' : BS} (h : CNB β) (hc : β'.1 0 = β.1 0) (h0 : β'.2 0 = β.2 0) (h9 : β'.2 9 = β.2 9) : CNB β' :=
  CNB_of h (congrArg Int32.toNatClampNeg hc) (fun i _ q => Or.inl (by rw [h0] at q; exact q)) (fun i _ _ => by rw [h9]) (fun u _ q => by rw [unf_congr (congrFun h0 u)]; exact q)
theorem load_nat {β μ : BS} (h : AL β μ) {o : Nat} (ho : o < 5) : ∃ l : Nat, l ≤ 260 ∧ β.2 11 o = nI l := by
  have hn : cnt β ≤ 20 := by rw [h.n]; exact h.n20
  obtain ⟨l, hl, e⟩ := pts_nat h ((fX0_ownedBy β (nI o)) &&& (fX0_unfinishedSet β))
  exact ⟨l, by omega, ((acct_eq h ho).trans (load_eq h (nI o)).symm).trans e⟩
theorem pt_nat {β μ : BS} (h : AL β μ) {t : Nat} (ht : t < cnt β) : ∃ p : Nat, 1 ≤ p ∧ p ≤ 13 ∧ β.2 1 t = nI p := by
  rw [h.n] at ht
  obtain ⟨q, q1, q2, e⟩ := (h.wt ht).2.1
  exact ⟨q, q1, q2, (h.pt ht).trans e⟩
theorem sub_le {x p c : Int32} {l k : Nat} (hx : x = nI l) (hp : p = nI k) (hl : l ≤ 1000) (hk : k ≤ 1000) (h : x ≤ c) : x + -p ≤ c := by
  rw [Int32.le_iff_toInt_le] at h ⊢
  rw [← Int32.sub_eq_add_neg, hx, hp, pk_sub_toInt (by omega) (by omega)]
  rw [hx, nI_toInt (by omega)] at h
  omega
/-- taking a ticket's points off its owner's account keeps every account in its bounds -/
theorem off_le {β μ X : BS} (h : AL β μ) (hl : ∀ o, o < 5 → β.2 11 o ≤ β.2 10 o) {t : Nat} (ht : t < cnt β) (h11 : X.2 11 = β.2 11) (h10 : X.2 10 = β.2 10) : ∀ o, o < 5 → (fX0_addLoad X (β.2 3 t) (-β.2 1 t)).2 11 o ≤ (fX0_addLoad X (β.2 3 t) (-β.2 1 t)).2 10 o := fun o ho => by
  have hn : cnt β ≤ 20 := by rw [h.n]; exact h.n20
  have hO : okO (β.2 3 t) := h.1.2.2 t (by omega)
  obtain ⟨l, hl2, el⟩ := load_nat h ho
  obtain ⟨p, p1, p2, ep⟩ := pt_nat h ht
  rw [addLoad_11 hO ho, addLoad_r (by decide), h11, h10]
  split
  · exact sub_le el ep (by omega) (by omega) (hl o ho)
  · exact hl o ho
theorem inv_mk {dd : Nat} {β' ν : BS} (ha : AL β' ν) (hm : vM ν) (h1 : cnt β' ≤ 7) (h2 : ∃ d : Nat, d ≤ dd ∧ β'.1 1 = nI d) (h3 : ∀ o, o < 5 → β'.2 11 o ≤ β'.2 10 o) (h4 : CNB β') : INV dd β' := ⟨ν, ha, hm, h1, h2, h3, h4⟩
theorem inv_open {dd : Nat} {β : BS} {p z : Int32} (hI : INV dd β) (h7 : ¬ (fT_tickets β) = 7) (hp : (fX6_within p 1 13) = true) : INV dd (fX0_addTicket β p z).2 := by
  obtain ⟨μ, h, hm, h1, h2, h3, h4⟩ := hI
  have hv := h.1
  have h6 : cnt β < 7 := by
    rcases Nat.lt_or_ge (cnt β) 7 with c | c
    · exact c
    · exact absurd (show fT_tickets β = 7 from hv.2.1.trans (by rw [show cnt β = 7 by omega]; rfl)) h7
  have hr : cM μ < 20 := by rw [← h.n]; omega
  have hb : vB _ := vB_addTicket (p := p) (z := z) hv (by omega)
  have hv2 := vM_opens (p := p) (z := z) hm hr
  have e1 : cnt (fX0_addTicket β p z).2 = cnt β + 1 := by
    show (β.1 0 + 1).toNatClampNeg = cnt β + 1
    rw [hv.2.1, nI_1, nI_clamp (by omega)]
  have e0 : (fX0_addTicket β p z).2.2 0 = upd (β.2 0) (cnt β) 0 := rfl
  have e9 : (fX0_addTicket β p z).2.2 9 = upd (β.2 9) (cnt β) 0 := rfl
  have hin : ∃ q : Nat, 1 ≤ q ∧ q ≤ 13 ∧ p = nI q := in_nat (a := 1) (b := 13) (by decide) (by decide) hp
  refine inv_mk (⟨hb, hv2.1, open_RB h hr hin⟩ : AL _ _) hv2 (by omega) h2 h3 ?_
  intro t ht hs u hu q
  rw [e1] at ht hu
  rw [e0] at hs
  rw [e9] at q
  have t1 : t ≠ cnt β := fun e => by rw [e, pk_us] at hs; exact absurd hs (by decide)
  rw [pk_un t1] at hs q
  have t2 : t < cnt β := by omega
  have u2 : u < cnt β := need_lt h t2 (by omega) q
  rw [unf_congr (show (fX0_addTicket β p z).2.2 0 u = β.2 0 u by rw [e0, pk_un (by omega)])]
  exact h4 t t2 hs u u2 q
theorem inv_need {dd : Nat} {β : BS} {t u : Nat} (hI : INV dd β) (ht : t < cnt β) (hu : u < cnt β) (hne : ¬ t = u) (hs : ¬ 2 < (fT_stateOf β t)) (hnd : (fT_needs β t u) = false) (hr : (fL_reaches β u t) = false) : INV dd (fX0_addNeed β t (nI u)).2 := by
  have hun := unf_of hI ht hs
  obtain ⟨μ, h, hm, h1, h2, h3, h4⟩ := hI
  have hn : cnt β ≤ 20 := by rw [h.n]; exact h.n20
  have ht2 : t < cM μ := by rw [← h.n]; exact ht
  have hu2 : u < cM μ := by rw [← h.n]; exact hu
  have q1 : bt (fX7_of μ t 9) u = false := by rw [← h.nd ht2, ← needs_bt (by omega)]; exact hnd
  have hb : vB _ := vB_addNeed (t := t) (u := nI u) h.1
  have hv2 := vM_takesx (t := t) (u := nI u) hm
  refine inv_mk (⟨hb, hv2.1, need_RBx h ht2 hu2 rfl q1 hne (need_all h hu ht hr)⟩ : AL _ _) hv2 h1 h2 h3 ?_
  refine CNB_of h4 rfl (fun i _ q => Or.inl q) (fun i hi q => ?_) (fun u _ q => q)
  have it : i ≠ t := fun e => by
    rw [e] at q
    unfold fX0_isUnfinished at hun
    rw [if_pos q] at hun
    cases hun
  exact sE_o it
theorem inv_give {dd : Nat} {β : BS} {t o : Nat} (hI : INV dd β) (ht : t < cnt β) (ho : o < 5) (hs : ¬ 2 < (fT_stateOf β t)) (hw : ¬ (β.2 3 t) = (nI o)) (hc : ((fT_loadByTickets β o) + (fT_pointsOf β t)) ≤ (fT_capacityOf β o)) : INV dd (fX0_giveTo β t o).2 := by
  have hg := give_of hI ht ho hs hw hc
  obtain ⟨μ, h, hm, h1, h2, h3, h4⟩ := hI
  have hn : cnt β ≤ 20 := by rw [h.n]; exact h.n20
  have ht2 : t < cM μ := by rw [← h.n]; exact ht
  have hO : okO (β.2 3 t) := h.1.2.2 t (by omega)
  have hb : vB _ := vB_giveTo (t := t) h.1 ho
  have hv2 := vM_assigns (t := t) hm ho
  have ec : fT_loadByTickets β o = β.2 11 o := (load_eq h (nI o)).trans (acct_eq h ho).symm
  rw [ec] at hc
  have hX : ∀ {r : Nat}, r ≠ 11 → r ≠ 3 → (fX0_giveTo β t o).2.2 r = β.2 r := fun {r} r1 r2 => by
    show (fX0_addLoad (sE (fX0_addLoad β (β.2 3 t) (-(β.2 1 t))) 3 t (nI o)) (nI o) ((sE (fX0_addLoad β (β.2 3 t) (-(β.2 1 t))) 3 t (nI o)).2 1 t)).2 r = _
    rw [addLoad_r r1, sE_r r2, addLoad_r r1]
  have h1' : (fX0_giveTo β t o).2.1 = β.1 := by
    show (fX0_addLoad (sE (fX0_addLoad β (β.2 3 t) (-(β.2 1 t))) 3 t (nI o)) (nI o) ((sE (fX0_addLoad β (β.2 3 t) (-(β.2 1 t))) 3 t (nI o)).2 1 t)).1 = _
    rw [addLoad_1, sE_1, addLoad_1]
  refine inv_mk (⟨hb, hv2.1, give_RBx h ht2 ho hg⟩ : AL _ _) hv2 (by unfold cnt at h1 ⊢; rw [h1']; exact h1) (by rw [h1']; exact h2) (fun k hk => ?_) (CNB_same h4 (congrFun h1' 0) (hX (by decide) (by decide)) (hX (by decide) (by decide)))
  rw [hX (r := 10) (by decide) (by decide)]
  show (fX0_addLoad (sE (fX0_addLoad β (β.2 3 t) (-(β.2 1 t))) 3 t (nI o)) (nI o) ((sE (fX0_addLoad β (β.2 3 t) (-(β.2 1 t))) 3 t (nI o)).2 1 t)).2 11 k ≤ β.2 10 k
  rw [addLoad_11 (okO_n ho) hk, sE_r (show (11 : Nat) ≠ 3 by decide), sE_r (show (1 : Nat) ≠ 3 by decide), addLoad_r (show (1 : Nat) ≠ 11 by decide)]
  by_cases c : nI o = nI k
  · have e : o = k := (nI_eq (by omega) (by omega)).mp c
    subst e
    rw [if_pos rfl, addLoad_11 hO ho, if_neg hw]
    exact hc
  · rw [if_neg c]
    have h5 := off_le h h3 ht (X := β) rfl rfl k hk
    rw [addLoad_r (β := β) (r := 10) (by decide)] at h5
    exact h5
theorem inv_plan {dd : Nat} {β : BS} {t m : Nat} (hI : INV dd β) (ht : t < cnt β) (hm4 : m < 4) : INV dd (sE β 4 t (nI m)) := by
  obtain ⟨μ, h, hm, h1, h2, h3, h4⟩ := hI
  have ht2 : t < cM μ := by rw [← h.n]; exact ht
  have hb : vB (sE β 4 t (nI m)) := h.1
  have hv2 := vM_lay (t := t) (w := 4) (v := nI m + 1) hm (by decide) (fun e => absurd e (by decide)) (fun _ => ⟨m + 1, by omega, nI_1 m⟩)
  exact inv_mk (⟨hb, hv2.1, plan_RB h ht2 (nI m)⟩ : AL _ _) hv2 h1 h2 h3 (CNB_same h4 rfl rfl rfl)
theorem inv_date {dd : Nat} {β : BS} {m : Nat} {z : Int32} (hI : INV dd β) (hm4 : m < 4) : INV dd (fX0_setDate β m z).2 := by
  obtain ⟨μ, h, hm, h1, h2, h3, h4⟩ := hI
  have hb : vB _ := vB_setDate (m := m) (z := z) h.1
  have hv2 := vM_low (i := 9 + m) (v := z) hm (by omega) (by omega)
  exact inv_mk (⟨hb, hv2.1, date_RB h hm4 z⟩ : AL _ _) hv2 h1 h2 h3 (CNB_same h4 rfl rfl rfl)
theorem inv_days {dd : Nat} {β : BS} {x : Int32} (hI : INV dd β) (hd : dd ≤ 420) : INV (dd + 12) (fX0_pass β (1 + (fL_low x 12))).2 := by
  obtain ⟨μ, h, hm, h1, ⟨d, d1, d2⟩, h3, h4⟩ := hI
  obtain ⟨k, hk, e2⟩ := low_n x (n := 12) (by decide) (by decide)
  have e3 : 1 + (fL_low x 12) = nI (1 + k) := nx_add nI_l1 (show fL_low x 12 = nI k from e2)
  rw [e3]
  have dy : dyT (μ.2 0) = d := by
    unfold dyT
    rw [← h.b.1.2.1, d2, nI_clamp (by omega)]
  have hb : vB _ := vB_pass (d := nI (1 + k)) h.1
  have hv2 := vM_ends (d := nI (1 + k)) hm
  obtain ⟨p1, p2, p3⟩ := pass_spec β (nI (1 + k)) (cnt β)
  have f1 : (fX0_pass β (nI (1 + k))).2.1 = (sI β 1 (β.1 1 + nI (1 + k))).1 := p1
  have fr : ∀ r, r ≠ 7 → (fX0_pass β (nI (1 + k))).2.2 r = β.2 r := p2
  refine inv_mk (⟨hb, hv2.1, days_RB h (d := 1 + k) (by omega)⟩ : AL _ _) hv2 ?_ ⟨d + (1 + k), by omega, ?_⟩ (fun o ho => ?_) (CNB_same h4 ?_ (fr 0 (by decide)) (fr 9 (by decide)))
  · unfold cnt at h1 ⊢
    rw [f1]
    exact h1
  · rw [f1]
    show β.1 1 + nI (1 + k) = _
    rw [d2, nI_add]
  · rw [fr 11 (by decide), fr 10 (by decide)]
    exact h3 o ho
  · rw [f1]
    rfl
theorem state_CNB {β : BS} {t : Nat} {v : Int32} (h4 : CNB β) (hun : fX0_isUnfinished β t = true) (hv : ¬ v = 3) : CNB (sE β 0 t v) := by
  refine CNB_of h4 rfl (fun i hi q => ?_) (fun i _ _ => rfl) (fun u hu q => ?_)
  · by_cases e : i = t
    · subst e
      rw [sE_s] at q
      exact absurd q hv
    · rw [sE_o e] at q
      exact Or.inl q
  · by_cases e : u = t
    · subst e
      rw [hun] at q
      cases q
    · rw [unf_congr (sE_o e)]
      exact q
theorem unf_small {dd : Nat} {β : BS} {t : Nat} {s : Int32} (hI : INV dd β) (ht : t < cnt β) (h : (fT_stateOf β t) = s) (hs : ¬ 2 < s) : fX0_isUnfinished β t = true := unf_of hI ht (by rw [h]; exact hs)
theorem inv_start {dd : Nat} {β : BS} {t : Nat} (hI : INV dd β) (ht : t < cnt β) (hs : (fT_stateOf β t) = 0) : INV dd (sE β 0 t 1) := by
  have hun := unf_small hI ht hs (by decide)
  obtain ⟨μ, h, hm, h1, h2, h3, h4⟩ := hI
  have ht2 : t < cM μ := by rw [← h.n]; exact ht
  have hb : vB (sE β 0 t 1) := h.1
  have hv2 := vM_layD (t := t) (w := 2) (v := 1) hm rfl
  exact inv_mk (⟨hb, hv2.1, state1_RB h ht2 (by rw [← unf_eq h ht2]; exact hun)⟩ : AL _ _) hv2 h1 h2 h3 (state_CNB h4 hun (by decide))
theorem inv_submit {dd : Nat} {β : BS} {t : Nat} (hI : INV dd β) (ht : t < cnt β) (hs : (fT_stateOf β t) = 1) : INV dd (sE β 0 t 2) := by
  have hun := unf_small hI ht hs (by decide)
  obtain ⟨μ, h, hm, h1, h2, h3, h4⟩ := hI
  have ht2 : t < cM μ := by rw [← h.n]; exact ht
  have hb : vB (sE β 0 t 2) := h.1
  have hv2 := vM_layD (t := t) (w := 2) (v := 2) hm rfl
  exact inv_mk (⟨hb, hv2.1, state2_RB h ht2 (by rw [← unf_eq h ht2]; exact hun)⟩ : AL _ _) hv2 h1 h2 h3 (state_CNB h4 hun (by decide))
theorem inv_drop {dd : Nat} {β : BS} {t : Nat} (hI : INV dd β) (ht : t < cnt β) (hs : ¬ 2 < (fT_stateOf β t)) : INV dd (fX0_leaveOff β t 4) := by
  have hun := unf_of hI ht hs
  obtain ⟨μ, h, hm, h1, h2, h3, h4⟩ := hI
  have ht2 : t < cM μ := by rw [← h.n]; exact ht
  have hb : vB _ := vB_leaveOff (t := t) (z := 4) h.1
  have hv2 := vM_layD (t := t) (w := 2) (v := 4) hm rfl
  have e1 : (fX0_leaveOff β t 4).1 = β.1 := addLoad_1 _ _ _
  have er : ∀ r, r ≠ 11 → (fX0_leaveOff β t 4).2 r = (sE β 0 t 4).2 r := fun r hr => addLoad_r hr
  refine inv_mk (⟨hb, hv2.1, drop_RB h ht2 (by rw [← unf_eq h ht2]; exact hun)⟩ : AL _ _) hv2 (by unfold cnt at h1 ⊢; rw [e1]; exact h1) (by rw [e1]; exact h2) (off_le h h3 ht (X := sE β 0 t 4) rfl rfl) ?_
  exact CNB_same (state_CNB (v := 4) h4 hun (by decide)) (congrFun e1 0) (er 0 (by decide)) (er 9 (by decide))
theorem inv_close {dd : Nat} {β : BS} {t : Nat} (hI : INV dd β) (ht : t < cnt β) (hs : (fT_stateOf β t) = 2) (hb0 : ¬ (fT_isBlocked β t) = true) : INV dd (fX0_finish β t) := by
  have hun := unf_small hI ht hs (by decide)
  obtain ⟨μ, h, hm, h1, h2, h3, h4⟩ := hI
  have hn : cnt β ≤ 20 := by rw [h.n]; exact h.n20
  have ht2 : t < cM μ := by rw [← h.n]; exact ht
  have hz : fX0_blockerSet β t = 0 := Decidable.byContradiction fun q => hb0 (by unfold fT_isBlocked; rw [if_neg q])
  have hb : vB _ := vB_finish (t := t) h.1
  have hv2 := vM_closesx (t := t) hm
  have e1 : (fX0_finish β t).1 = (sI (sE β 6 t (β.1 1)) 2 (β.1 2 + 1)).1 := by rw [finish_eq, addLoad_1]; rfl
  have er : ∀ r, r ≠ 11 → (fX0_finish β t).2 r = (sE (sI (sE β 6 t (β.1 1)) 2 (β.1 2 + 1)) 0 t 3).2 r := fun r hr => by rw [finish_eq, addLoad_r hr]
  have e0 : (fX0_finish β t).2 0 = upd (β.2 0) t 3 := (er 0 (by decide)).trans rfl
  have e9 : (fX0_finish β t).2 9 = β.2 9 := (er 9 (by decide)).trans rfl
  have ec : cnt (fX0_finish β t) = cnt β := by unfold cnt; rw [e1]; rfl
  have uf : ∀ u, u < cnt β → fX0_isUnfinished β u = false → fX0_isUnfinished (fX0_finish β t) u = false := fun u hu q => by
    by_cases e : u = t
    · subst e
      rw [hun] at q
      cases q
    · rw [unf_congr (show (fX0_finish β t).2 0 u = β.2 0 u by rw [e0, pk_un e])]
      exact q
  refine inv_mk (⟨hb, hv2.1, finish_RBx h ht2 (by rw [← unf_eq h ht2]; exact hun)⟩ : AL _ _) hv2 (by rw [ec]; exact h1) (by rw [e1]; exact h2) (by rw [finish_eq]; exact off_le h h3 ht (X := sE (sI (sE β 6 t (β.1 1)) 2 (β.1 2 + 1)) 0 t 3) rfl rfl) ?_
  refine CNB_of h4 ec (fun i hi q => ?_) (fun i _ _ => by rw [e9]) uf
  by_cases e : i = t
  · refine Or.inr fun u hu w => ?_
    rw [e, e9] at w
    refine uf u hu (tf_of fun g => ?_)
    have z := bt_z.mp hz u (by omega)
    unfold fX0_blockerSet at z
    rw [bt_and, w, bt_unf hn (by omega), decide_eq_true hu, g] at z
    exact absurd z (by decide)
  · refine Or.inl ?_
    rw [e0, pk_un e] at q
    exact q
