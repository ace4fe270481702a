/-! ===== kept states, undone changes: both sides alike ===== -/
theorem keep_row (μ : BS) (a : Int32) : lpW (fX7_keep_L22 μ a) (sI μ 0 0) 213 = sA (sI μ 0 0) 3 (cpW (sI μ 0 0) 3 (213 * a.toNatClampNeg) (μ.2 0) 213) := lp_cp (n := 213) (fun i _ => rfl) 213 (Nat.le_refl _)
theorem goBack_row (μ ρ : BS) (a : Int32) : lpW (fX7_goBack_L41 μ a) ρ 213 = sA ρ 0 (cpW ρ 0 0 (fun k => ρ.2 3 ((213 * a.toNatClampNeg) + k)) 213) := lp_cp (n := 213) (fun i _ => by rw [Nat.zero_add]; rfl) 213 (Nat.le_refl _)
theorem undo_row (μ κ : BS) : lpW (fX7_undo_L30 μ) κ 213 = sA κ 0 (cpW κ 0 0 (fun k => κ.2 2 ((213 * (κ.1 1).toNatClampNeg) + k)) 213) := lp_cp (n := 213) (fun i _ => by rw [Nat.zero_add]; rfl) 213 (Nat.le_refl _)
theorem nar_1 : vp_nar .boolean 1 = 1 := by decide
theorem up_b {f : Nat → Int32} {i : Nat} (h : ∀ j : Nat, j < 2 → f j = b2i (i2b (f j))) : ∀ j : Nat, j < 2 → upd f i (vp_nar .boolean 1) j = b2i (i2b (upd f i (vp_nar .boolean 1) j)) := fun j hj => by
  unfold upd
  by_cases e : j = i
  · rw [if_pos e, nar_1]; decide
  · rw [if_neg e]; exact h j hj
theorem vM_keep {μ ν : BS} {i : Nat} (h : vM μ) (r1 : ν.1 = (sI μ 0 0).1) (r0 : ν.2 0 = μ.2 0) (r3 : ν.2 3 = cpW (sI μ 0 0) 3 (213 * i) (μ.2 0) 213) (r4 : ν.2 4 = upd (μ.2 4) i (vp_nar .boolean 1)) (ro : ∀ j, j ≠ 0 → j ≠ 3 → j ≠ 4 → ν.2 j = μ.2 j) : vM ν := by
  obtain ⟨g1, ⟨k1, k2, k3, k4, k5, k6⟩, l1, p1⟩ := h
  have e1 : ∀ j, j ≠ 0 → ν.1 j = μ.1 j := fun j hj => by rw [r1]; exact if_neg hj
  have es : sm ν = sm μ := congrArg Int32.toNatClampNeg (e1 1 (by decide))
  have el : tl ν = tl μ := congrArg Int32.toNatClampNeg (e1 2 (by decide))
  have ea : ta ν = ta μ := congrArg Int32.toNatClampNeg (e1 3 (by decide))
  have er : rm ν = rm μ := congrArg Int32.toNatClampNeg (e1 5 (by decide))
  refine ⟨by rw [r0]; exact g1, ⟨by rw [ro 1 (by decide) (by decide) (by decide)]; exact k1, by rw [ro 2 (by decide) (by decide) (by decide)]; exact k2, fun r hr => ?_, by rw [es]; exact k4, by rw [es, e1 1 (by decide)]; exact k5, by rw [r4]; exact up_b k6⟩, ?_, ?_⟩
  · rw [r3]
    by_cases e : r = i
    · exact vS_congr g1 fun k hk => cpW_in (by rw [e]) hk
    · exact vS_congr (k3 r hr) fun k hk => cpW_out (mul_213 hk e)
  · unfold vL at *
    rw [el, e1 2 (by decide)]
    exact l1
  · unfold vP at *
    rw [ea, er, e1 3 (by decide), e1 4 (by decide), e1 5 (by decide), ro 6 (by decide) (by decide) (by decide)]
    exact p1
theorem sh_keep : sH_keep Rl := by
  intro β τ γ η σ θ μ a h
  unfold fX6_keep fX7_keep fX3_keepIn
  by_cases c : fX6_isSlot a = true
  · rw [if_pos c, if_pos (show fX7_in a 0 1 = true from c), keep_row]
    obtain ⟨-, ti⟩ := in_i2 (show fX7_in a 0 1 = true from c)
    obtain ⟨hA, hv, hη, hθ, hH, hT⟩ := h
    generalize a.toNatClampNeg = i at ti ⊢
    obtain ⟨ν, hν⟩ : ∃ ν, ν = sE (sA (sI μ 0 0) 3 (cpW (sI μ 0 0) 3 (213 * i) (μ.2 0) 213)) 4 i (vp_nar .boolean 1) := ⟨_, rfl⟩
    rw [← hν]
    have r1 : ν.1 = (sI μ 0 0).1 := by rw [hν]; rfl
    have r0 : ν.2 0 = μ.2 0 := by rw [hν]; rfl
    have r3 : ν.2 3 = cpW (sI μ 0 0) 3 (213 * i) (μ.2 0) 213 := by rw [hν]; rfl
    have r4 : ν.2 4 = upd (μ.2 4) i (vp_nar .boolean 1) := by rw [hν]; rfl
    have ro : ∀ j, j ≠ 0 → j ≠ 3 → j ≠ 4 → ν.2 j = μ.2 j := fun j _ h3 h4 => by rw [hν]; exact (if_neg h4).trans (if_neg h3)
    refine ⟨Or.inl ⟨rfl, by rw [r1]; rfl⟩, AL_row hA r0, vM_keep hv r1 r0 r3 r4 ro, ⟨hη.1, hη.2.1, up_b hη.2.2⟩, hθ, ?_, TR_of hT (by rw [r1]; rfl) (ro 5 (by decide) (by decide) (by decide))⟩
    obtain ⟨⟨o, n, ho, hn, e0, e1, e2, hs⟩, hk⟩ := hH
    refine ⟨⟨o, n, ho, hn, e0, e1, by rw [r1]; exact e2, fun j hj => ?_⟩, fun s hs2 => ?_⟩
    · rw [ro 2 (by decide) (by decide) (by decide)]
      have e : upB σ (8 + i) β (2 + (o + j) % 6) = σ (2 + (o + j) % 6) := if_neg (by omega)
      show ALr (upB σ (8 + i) β (2 + (o + j) % 6)) _
      rw [e]
      exact hs j hj
    · rw [r4, r3]
      show i2b (upd (η.2 0) i (vp_nar .boolean 1) s) = i2b (upd (μ.2 4) i (vp_nar .boolean 1) s) ∧ (i2b (upd (μ.2 4) i (vp_nar .boolean 1) s) = true → ALr (upB σ (8 + i) β (8 + s)) _)
      unfold upd upB
      by_cases e : s = i
      · subst e
        rw [if_pos rfl, if_pos rfl, if_pos rfl]
        exact ⟨rfl, fun _ => ALr_congr (show ALr β (μ.2 0) from hA) fun k hk9 => cpW_in rfl hk9⟩
      · rw [if_neg e, if_neg e, if_neg (by omega)]
        refine ⟨(hk s hs2).1, fun q => ALr_congr ((hk s hs2).2 q) fun k hk9 => ?_⟩
        exact cpW_out (mul_213 hk9 e)
  · rw [if_neg c, if_neg (show ¬ fX7_in a 0 1 = true from c)]
    exact ⟨Or.inr ⟨rfl, rfl⟩, Rl_f h 1⟩
theorem i2b_iff {x : Int32} : i2b x = true ↔ ¬ x = 0 := ⟨i2b_z, i2b_n⟩
theorem sh_goBack : sH_goBack Rl := by
  intro β τ γ η σ θ μ a h
  unfold fX6_goBack fX7_goBack
  by_cases c : fX6_isSlot a = true
  · rw [if_pos c, if_pos (show fX7_in a 0 1 = true from c)]
    obtain ⟨-, ti⟩ := in_i2 (show fX7_in a 0 1 = true from c)
    have hk := (h.2.2.2.2.1.2 _ ti).1
    by_cases c2 : fX3_hasKept η a.toNatClampNeg = true
    · have c3 : i2b (μ.2 4 a.toNatClampNeg) = true := hk.symm.trans c2
      rw [if_pos c2, if_neg (i2b_iff.mp c3), goBack_row]
      have hv0 : vM (sI μ 0 0) := vM_i0 h.2.1
      have hR : HR (fX3_save η σ β).1 (fX3_save η σ β).2 (fX7_records (sI μ 0 0)) := records_HR (AL_row h.1 rfl) hv0 (HR_of h.2.2.2.2.1 rfl rfl rfl rfl)
      have hvρ := vM_rec h.2.1
      have ho := records_o hv0
      have hz := rcd_0 h.2.1
      have e4 : (fX7_records (sI μ 0 0)).2 4 = μ.2 4 := ho.2 4 (by decide)
      have e5 : (fX7_records (sI μ 0 0)).2 5 = μ.2 5 := ho.2 5 (by decide)
      have e2 : (fX7_records (sI μ 0 0)).1 2 = μ.1 2 := ho.1
      have hs := (hR.2 _ ti).2 (by rw [e4]; exact c3)
      unfold fX3_restoreKept
      generalize fX7_records (sI μ 0 0) = ρ at *
      have hν : ALr ((fX3_save η σ β).2 (8 + a.toNatClampNeg)) (cpW ρ 0 0 (fun k => ρ.2 3 ((213 * a.toNatClampNeg) + k)) 213) := ALr_congr hs fun k hk9 => cpW_0 hk9
      exact ⟨Or.inl ⟨rfl, hz⟩, hν, vM_s hvρ hν.2.1, vH_save h.2.2.1, h.2.2.2.1, HR_of hR rfl rfl rfl rfl, TR_of h.2.2.2.2.2 e2 e5⟩
    · have c3 : ¬ i2b (μ.2 4 a.toNatClampNeg) = true := fun q => c2 (hk.trans q)
      rw [if_neg c2, if_pos (Classical.not_not.mp (fun q => c3 (i2b_iff.mpr q)))]
      exact ⟨Or.inr (Or.inr ⟨rfl, rfl⟩), Rl_f h 2⟩
  · rw [if_neg c, if_neg (show ¬ fX7_in a 0 1 = true from c)]
    exact ⟨Or.inr (Or.inl ⟨rfl, rfl⟩), Rl_f h 1⟩
theorem vM_sm {μ : BS} {v : Int32} {c : Nat} (h : vM μ) (e : v = nI c) (hc : c ≤ 6) : vM (sI μ 1 v) := by
  obtain ⟨g1, ⟨k1, k2, k3, k4, k5, k6⟩, l1, p1⟩ := h
  have es : sm (sI μ 1 v) = c := by
    show v.toNatClampNeg = c
    rw [e, nI_clamp (by omega)]
  exact ⟨g1, ⟨k1, k2, k3, by rw [es]; exact hc, by rw [es]; exact e, k6⟩, l1, p1⟩
theorem vH_c {η : BS} {v : Int32} {c : Nat} (h : vH η) (e : v = nI c) (hc : c ≤ 6) : vH (sI η 1 v) := ⟨h.1, ⟨c, hc, e⟩, h.2.2⟩
theorem sh_undo : sH_undo Rl := by
  intro β τ γ η σ θ μ h
  unfold fX6_undo fX7_undo fX3_savedCount fX3_restoreSaved
  obtain ⟨⟨o, n, ho, hn, e0, e1, e2, hs⟩, hk⟩ := h.2.2.2.2.1
  rcases Nat.eq_zero_or_pos n with c | c
  · subst c
    rw [if_pos (show η.1 1 ≤ 0 from Int32.le_of_eq e1), if_pos (show μ.1 1 = 0 from e2)]
    exact ⟨Or.inr ⟨rfl, rfl⟩, Rl_f h 1⟩
  · obtain ⟨d, rfl⟩ : ∃ d, n = d + 1 := ⟨n - 1, by omega⟩
    rw [if_neg (show ¬ η.1 1 ≤ 0 from fun q => not_le0 (o := d) (by omega) (by rw [e1] at q; exact q)), if_neg (show ¬ μ.1 1 = 0 from fun q => nI_ne0 (n := d + 1) (by omega) (by omega) (e2.symm.trans q)), undo_row]
    have f1 : η.1 1 - 1 = nI d := by rw [e1, nI_pred]
    have f2 : μ.1 1 - 1 = nI d := by rw [e2, nI_pred]
    rw [f1, f2]
    have g0 : (sI η 1 (nI d)).1 0 = nI o := e0
    have g1 : (sI η 1 (nI d)).1 1 = nI d := rfl
    have g2 : (sI (sI μ 0 0) 1 (nI d)).1 1 = nI d := rfl
    rw [g0, g1, g2, nI_add, irem_nat (by omega), nI_clamp (by omega), nI_clamp (by omega)]
    have hν : ALr (σ (2 + (o + d) % 6)) (cpW (sI (sI μ 0 0) 1 (nI d)) 0 0 (fun k => (sI (sI μ 0 0) 1 (nI d)).2 2 ((213 * d) + k)) 213) := ALr_congr (hs d (by omega)) fun k hk9 => cpW_0 hk9
    refine ⟨Or.inl ⟨rfl, rfl⟩, hν, vM_s (vM_sm (vM_i0 h.2.1) rfl (by omega)) hν.2.1, vH_c h.2.2.1 rfl (by omega), h.2.2.2.1, ⟨⟨o, d, ho, by omega, e0, rfl, rfl, fun j hj => hs j (by omega)⟩, hk⟩, TR_of h.2.2.2.2.2 rfl rfl⟩
