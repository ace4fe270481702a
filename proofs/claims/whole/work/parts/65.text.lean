/-! ===== the text: what is put in, taken out ===== -/
theorem ch_id : ∀ c : Fin 127, vp_nar .char (((nI c.1).toUInt32 % 65536).toInt32) = nI c.1 := by decide +kernel
theorem vM_tx {μ ν : BS} {c : Nat} (h : vM μ) (e0 : ν.2 = μ.2 ∨ ∃ i v, ν.2 = (sE μ 5 i v).2) (e2 : ν.1 2 = nI c) (hc : c ≤ 60) (e1 : ∀ j, j ≠ 0 → j ≠ 2 → ν.1 j = μ.1 j) : vM ν := by
  obtain ⟨g1, ⟨k1, k2, k3, k4, k5, k6⟩, l1, p1⟩ := h
  have r : ∀ j, j ≠ 5 → ν.2 j = μ.2 j := fun j hj => by
    rcases e0 with e0 | ⟨i, v, e0⟩
    · rw [e0]
    · rw [e0]; exact if_neg hj
  have es : sm ν = sm μ := congrArg Int32.toNatClampNeg (e1 1 (by decide) (by decide))
  have ea : ta ν = ta μ := congrArg Int32.toNatClampNeg (e1 3 (by decide) (by decide))
  have er : rm ν = rm μ := congrArg Int32.toNatClampNeg (e1 5 (by decide) (by decide))
  have el : tl ν = c := by unfold tl; rw [e2, nI_clamp (by omega)]
  refine ⟨by rw [r 0 (by decide)]; exact g1, ⟨by rw [r 1 (by decide)]; exact k1, by rw [r 2 (by decide)]; exact k2, by rw [r 3 (by decide)]; exact k3, by rw [es]; exact k4, by rw [es, e1 1 (by decide) (by decide)]; exact k5, by rw [r 4 (by decide)]; exact k6⟩, ⟨by rw [el]; exact hc, by rw [el]; exact e2⟩, ?_⟩
  unfold vP at *
  rw [ea, er, e1 3 (by decide) (by decide), e1 4 (by decide) (by decide), e1 5 (by decide) (by decide), r 6 (by decide)]
  exact p1
theorem vT_tx {θ ν : BS} {c : Nat} (h : vT θ) (e0 : ν.1 0 = nI c) (hc : c ≤ 60) (e1 : ν.1 1 = θ.1 1) (e2 : ν.1 2 = θ.1 2) : vT ν := by
  obtain ⟨-, -, h3, h4, h5, h6⟩ := h
  have el : len ν = c := by unfold len; rw [e0, nI_clamp (by omega)]
  unfold vT pos oc at *
  rw [el, e1, e2]
  exact ⟨hc, e0, h3, h4, h5, h6⟩
theorem HR_i0 {η μ ν : BS} {σ : Nat → BS} (h : HR η σ μ) (e1 : ν.1 1 = μ.1 1) (e : ∀ j, j ≠ 5 → ν.2 j = μ.2 j) : HR η σ ν := HR_of h e1 (e 2 (by decide)) (e 3 (by decide)) (e 4 (by decide))
theorem sh_clearBuffer : sH_clearBuffer Rl := by
  intro β τ γ η σ θ μ h
  unfold fX6_clearBuffer fX7_clearBuffer fX4_clear
  refine ⟨h.2.2.2.2.2.1, AL_row h.1 rfl, vM_tx (c := 0) h.2.1 (Or.inl rfl) rfl (by decide) (fun j h0 h2 => (if_neg h2).trans (if_neg h0)), h.2.2.1, vT_tx (c := 0) h.2.2.2.1 rfl (by decide) rfl rfl, HR_of h.2.2.2.2.1 rfl rfl rfl rfl, rfl, fun k hk => ?_⟩
  have e : tl (sI (sI μ 0 0) 2 0) = 0 := by
    show (0 : Int32).toNatClampNeg = 0
    decide
  have hk : k < tl (sI (sI μ 0 0) 2 0) := hk
  omega
theorem sh_append : sH_append Rl := by
  intro β τ γ η σ θ μ a h
  obtain ⟨hA, hv, hη, hθ, hH, hT⟩ := id h
  unfold fX6_append fX7_append
  by_cases c : fX6_within a 33 126 = true
  · rw [if_pos c, if_pos (show fX7_in a 33 126 = true from c)]
    obtain ⟨x, x1, x2, rfl⟩ := in_nat (a := 33) (b := 126) (by decide) (by decide) (show fX7_in a 33 126 = true from c)
    obtain ⟨hl1, hl2⟩ := hv.2.2.1
    have hlen : len θ = tl μ := congrArg Int32.toNatClampNeg hT.1
    have hroom : fX4_hasRoom θ = true ↔ ¬ μ.1 2 = 60 := by
      unfold fX4_hasRoom
      rw [hT.1, hl2]
      by_cases q : tl μ = 60
      · rw [q]; exact iff_of_false (by decide) (by decide)
      · refine iff_of_true ?_ (fun z => q ((nI_eq (a := tl μ) (b := 60) (by omega) (by omega)).mp z))
        rw [if_neg (fun z => by
          have := (nI_leI (a := 60) (b := tl μ) (by omega) (by omega)).mp z
          omega)]
    by_cases c2 : fX4_hasRoom θ = true
    · rw [if_pos c2, if_neg (hroom.mp c2)]
      have hlt : tl μ < 60 := by
        rcases Nat.lt_or_ge (tl μ) 60 with q | q
        · exact q
        · exact absurd (by rw [hl2, show tl μ = 60 by omega]; rfl) (hroom.mp c2)
      have en : μ.1 2 + 1 = nI (tl μ + 1) := by rw [hl2, nI_1]
      unfold fX4_add
      rw [ch_id ⟨x, by omega⟩]
      have e0 : (sE θ 0 (len θ) (nI x)).1 0 + 1 = nI (tl μ + 1) := by
        show θ.1 0 + 1 = _
        rw [hT.1, en]
      rw [e0, en, hlen]
      have r : ∀ j, j ≠ 5 → (sI (sE (sI μ 0 0) 5 (tl μ) (nI x)) 2 (nI (tl μ + 1))).2 j = μ.2 j := fun j hj => if_neg hj
      refine ⟨Or.inl ⟨rfl, rfl⟩, AL_row hA (r 0 (by decide)), vM_tx (c := tl μ + 1) hv (Or.inr ⟨tl μ, nI x, rfl⟩) rfl (by omega) (fun j h0 h2 => (if_neg h2).trans (if_neg h0)), hη, vT_tx (c := tl μ + 1) hθ rfl (by omega) rfl rfl, HR_i0 hH rfl r, rfl, fun k hk => ?_⟩
      have el : tl (sI (sE (sI μ 0 0) 5 (tl μ) (nI x)) 2 (nI (tl μ + 1))) = tl μ + 1 := by
        show (nI (tl μ + 1)).toNatClampNeg = _
        rw [nI_clamp (by omega)]
      rw [el] at hk
      show upd (θ.2 0) (tl μ) (nI x) k = upd (μ.2 5) (tl μ) (nI x) k ∧ ∃ c : Nat, 33 ≤ c ∧ c ≤ 126 ∧ upd (μ.2 5) (tl μ) (nI x) k = nI c
      unfold upd
      by_cases e : k = tl μ
      · rw [if_pos e, if_pos e]; exact ⟨rfl, x, x1, x2, rfl⟩
      · rw [if_neg e, if_neg e]; exact hT.2 k (by omega)
    · rw [if_neg c2, if_pos (Classical.not_not.mp (fun q => c2 (hroom.mpr q)))]
      exact ⟨Or.inr (Or.inr ⟨rfl, rfl⟩), Rl_f h 2⟩
  · rw [if_neg c, if_neg (show ¬ fX7_in a 33 126 = true from c)]
    exact ⟨Or.inr (Or.inl ⟨rfl, rfl⟩), Rl_f h 1⟩
