/-! ===== the digest: both sides tell the same number ===== -/
theorem one_if (b : Bool) : (fX6_oneIf b).toInt64 = if b = true then (1 : Int32).toInt64 else (0 : Int32).toInt64 := by cases b <;> rfl
theorem bits_z {A : Int32} {n : Nat} (hn : n ≤ 20) (hA : ∀ j, n ≤ j → j < 32 → bt A j = false) : fJ6_bitCount_0f7a4 A ≤ 0 ↔ A = 0 := by
  rw [bc_bits hn hA, bits_eq]
  constructor
  · intro q
    have h0 : pcn (bt A) 20 = 0 := by
      have := (nI_leI (a := pcn (bt A) 20) (b := 0) (by have := pcn_le (bt A) 20; omega) (by omega)).mp q
      omega
    refine bt_z.mpr fun j hj => ?_
    rcases Nat.lt_or_ge j 20 with c | c
    · refine tf_of fun w => ?_
      have key : ∀ m, j < m → m ≤ 20 → 0 < pcn (bt A) m := by
        intro m
        induction m with
        | zero => intro h; omega
        | succ m ih =>
          intro h1 h2
          rw [pcn]
          by_cases e : j = m
          · subst e; rw [if_pos w]; omega
          · have := ih (by omega) (by omega); omega
      have := key 20 c (by omega)
      omega
    · exact hA j (by omega) hj
  · intro q
    rw [q]
    have : pcn (bt 0) 20 = 0 := by decide +kernel
    rw [this]
    exact Int32.le_refl _
theorem tk_dig {β μ γ : BS} (h : AL β μ) {t : Nat} (ht : t < cM μ) (z : Int64) : (fX6_withTicket β γ z t).1 = (fX7_digestTicket μ z t).1 := by
  have hn := h.n20
  have eL : ∀ a : Int64, lpF (fX6_withTicket_L241 β γ z t) a (cM μ) = lpF (fX7_digestTicket_L196 μ z t) a (cM μ) := fun a => lpF_congr _ fun i x hi => by
    unfold fX6_withTicket_L241 fX7_digestTicket_L196 fX6_mixed
    rw [one_if, needsD_eq h ht (by omega)]
    have e : fX7_needsIt (fX7_chainFrom μ t).2 t (nI i) = fX7_needsIt μ t (nI i) := by
      unfold fX7_needsIt
      rw [of_x8 (cf_x8 μ t)]
    rw [e]
    by_cases c : fX7_needsIt μ t (nI i) = true
    · rw [if_pos c, if_pos c]
    · rw [if_neg c, if_neg c]
  have e1 : fJ6_bitCount_0f7a4 (fX0_blockerSet β t) = fX7_bits (fX7_blockers μ t) := by rw [blockers_eq h ht]; exact bc_bits hn (bl_hi h)
  have e2 : fJ6_bitCount_0f7a4 (fX0_reachedFrom β t) = fX7_bits (fX7_allNeeds μ t) := by rw [reached_eq h ht]; exact bc_bits hn (allNeeds_hi h ht)
  have e0 : fJ6_bitCount_0f7a4 (fX0_blockerSet β t) ≤ 0 ↔ fX7_blockers μ t = 0 := by rw [blockers_eq h ht]; exact bits_z hn (bl_hi h)
  unfold fX6_withTicket fX7_digestTicket
  by_cases c : fX7_blockers μ t = 0
  · rw [if_pos c, if_pos (e0.mpr c), e1, e2, table_eq9 (γ := γ) h ht, longest_eq h ht, h.st ht, h.pt ht, h.pr ht, h.ow ht, h.ms ht, h.op ht, h.pd ht, h.pb ht, h.n]
    exact eL _
  · rw [if_neg c, if_neg (fun q => c (e0.mp q)), e1, e2, table_eq9 (γ := γ) h ht, longest_eq h ht, h.st ht, h.pt ht, h.pr ht, h.ow ht, h.ms ht, h.op ht, h.pd ht, h.pb ht, h.n]
    exact eL _
theorem S0_key {β μ γ η θ : BS} (h : AL β μ) : fX6_digest_V41 β γ η θ = fX7_digest_V48 μ ∧ eqX 8 (sI μ 0 0) (fX7_digest_S0 μ) := by
  unfold fX6_digest_V41 fX7_digest_V48 fX7_digest_S0
  rw [h.n]
  refine lpF_rel (P := fun _ (x : Int64 × BS) (y : Int64 × BS) => x.1 = y.1 ∧ eqX 8 (sI μ 0 0) y.2) ⟨?_, eqX_refl 8 _⟩ (cM μ) fun i x y hi hxy => ?_
  · show fX6_mixed 4211 ((β.1 0).toInt64) = _
    rw [h.b.1.1]
    rfl
  · have hA : AL β y.2 := AL_row h (hxy.2.2 0 (by decide))
    have hi2 : i < cM y.2 := by rw [← hA.n, h.n]; exact hi
    refine ⟨?_, eqX_trans hxy.2 (dT_x8 _ _ _)⟩
    show (fX6_withTicket β x.2 x.1 i).1 = (fX7_digestTicket y.2 y.1 i).1
    rw [hxy.1]
    exact tk_dig hA hi2 _
theorem i64_1 : ∀ n : Fin 21, ((nI n.1 - 1) + 1).toInt64 = (nI n.1 - 1).toInt64 + 1 := by decide +kernel
theorem nx_1 {μ : BS} {β : BS} (h : AL β μ) : (fX7_next μ + 1).toInt64 = (fX7_next μ).toInt64 + 1 := by
  have hn := h.n20
  rcases (firstOf_eq h (lpF (fX7_next_L4 μ) 0 (cM μ))).2 with e | ⟨j, hj, e⟩
  · have e : fX7_next μ = -1 := e
    rw [e]
    exact i64_1 ⟨0, by decide⟩
  · have e : fX7_next μ = nI j := e
    have := i64_1 ⟨j + 1, by omega⟩
    rw [e]
    rw [show nI (⟨j + 1, by omega⟩ : Fin 21).1 - 1 = nI j from nI_pred j] at this
    exact this
theorem dig_all {β μ γ η θ : BS} {σ : Nat → BS} (h : Rl β η θ σ μ) (hb : ∀ ν : BS, AL β ν → fX6_bitsOf (fX7_mean ν) = fJxe99ae_doubleToLongBits_ccdee (fX7_mean ν)) : (fX6_digest β γ η θ).1 = (fX7_digest μ).1 ∧ Rl β η θ σ (fX7_digest μ).2 := by
  obtain ⟨v41, x0⟩ := S0_key (γ := γ) (η := η) (θ := θ) h.1
  have r0 : Rl β η θ σ (fX7_digest_S0 μ) := Rl_x (Rl_i0 h 0) x0 (by decide)
  have a0 := r0.1
  -- owners
  have v61 : fX6_digest_V61 β γ η θ = fX7_digest_V123 μ := by
    unfold fX6_digest_V61 fX7_digest_V123
    rw [v41]
    refine lpF_congr 5 fun i x hi => ?_
    unfold fX6_digest_L43 fX6_withOwner fX6_mixed fX7_digest_L50
    rw [a0.b.2.1 i hi, load_eq a0, acct_eq a0 hi, inprog_eq a0, doneBy_eq a0]
  -- milestones
  have v81 : fX6_digest_V81 β γ η θ = fX7_digest_V218 μ := by
    unfold fX6_digest_V81 fX7_digest_V218
    rw [v61]
    refine lpF_congr 4 fun i x hi => ?_
    unfold fX6_digest_L63 fX6_withMilestone fX6_mixed fX7_digest_L125
    rw [a0.b.2.2.1 i hi, leftFor_eq a0, doneFor_eq a0, hundr_eq a0, late_eq a0 hi, mispl_eq a0 hi, one_if]
    by_cases c : fX7_late (fX7_digest_S0 μ) i = true
    · rw [if_pos c, if_pos c]
    · rw [if_neg c, if_neg c]
  -- chains
  have r1a : Rl β η θ σ (fX7_critical (fX7_digest_S0 μ)).2 := Rl_x r0 (crit_x8 _) (by decide)
  have r1 : Rl β η θ σ (fX7_digest_S1 μ) := Rl_x r1a (crit_x8 _) (by decide)
  have a1 := r1.1
  have v128 : fX6_digest_V128 β γ η θ = fX7_digest_V250 μ := by
    unfold fX6_digest_V128 fX6_digest_V111 fX6_digest_V94 fX6_mixed fX7_digest_V250
    rw [v81, freest_eq a0, byTrying_eq (γ := fX6_digest_S0 β γ η θ) a0, byOrder_eq (γ := fX6_digest_S1 β γ η θ) r1a.1]
  -- what to do
  have r2 : Rl β η θ σ (fX7_digest_S2 μ) := Rl_x r1 (tells_x7 _) (by decide)
  have a2 := r2.1
  obtain ⟨-, o1, o2⟩ := order_eq (γ := fX6_digest_S2 β γ η θ) a1
  have v134 : fX6_digest_V134 β γ η θ = fX7_digest_V299 μ := by
    unfold fX6_digest_V134 fX6_withWhatToDo fX7_digest_V299 fX7_digest_V264
    show lpF (fX6_withWhatToDo_L31 β (fX6_digest_S2 β γ η θ) (fX6_digest_V128 β γ η θ)) _ _ = _
    rw [o1, v128, next_eq a1]
    have e : fX6_mixed (fX7_digest_V250 μ) ((fX7_next (fX7_digest_S1 μ) + 1).toInt64) = ((31 * (fX7_digest_V250 μ)) + ((fX7_next (fX7_digest_S1 μ)).toInt64)) + 1 := by
      unfold fX6_mixed
      rw [nx_1 a1]
      exact (Int64.add_assoc _ _ _).symm
    rw [e]
    refine lpF_congr _ fun i x hi => ?_
    unfold fX6_withWhatToDo_L31 fX6_mixed fX7_digest_L272
    rw [o2 i hi]
    rfl
  -- sums
  have hs := saved_eq r2.2.2.2.2.1
  have v140 : fX6_digest_V140 β γ η θ = fX7_digest_V383 μ := by
    unfold fX6_digest_V140 fX6_withAccounts fX6_mixed fX3_savedCount fX7_digest_V383 fX7_digest_V369 fX7_digest_V335
    rw [v134, a2.b.1.2.1, blockedMany_eq a2, a2.b.1.2.2.1, a2.b.1.2.2.2, week_eq a2, hs, mean_eq a2, hb _ a2]
  have k0 := (r2.2.2.2.2.1.2 0 (by decide)).1
  have k1 := (r2.2.2.2.2.1.2 1 (by decide)).1
  have v170 : fX6_digest_V170 β γ η θ = 31 * ((31 * (fX7_digest_V383 μ)) + (if i2b ((fX7_digest_S2 μ).2 4 0) = true then (1 : Int32).toInt64 else (0 : Int32).toInt64)) + (if i2b ((fX7_digest_S2 μ).2 4 1) = true then (1 : Int32).toInt64 else (0 : Int32).toInt64) := by
    unfold fX6_digest_V170
    rw [v140]
    show fX6_mixed (fX6_mixed (fX7_digest_V383 μ) ((fX6_oneIf (fX3_hasKept η 0)).toInt64)) ((fX6_oneIf (fX3_hasKept η 1)).toInt64) = _
    unfold fX6_mixed
    rw [one_if, one_if, show fX3_hasKept η 0 = i2b ((fX7_digest_S2 μ).2 4 0) from k0, show fX3_hasKept η 1 = i2b ((fX7_digest_S2 μ).2 4 1) from k1]
  -- the text
  have hT := r2.2.2.2.2.2
  have hl : len θ = tl (fX7_digest_S2 μ) := congrArg Int32.toNatClampNeg hT.1
  have hl2 : tl (fX7_digest_S2 μ) = tl μ := by
    unfold tl
    rw [← hT.1, h.2.2.2.2.2.1]
  have eT : ∀ a : Int64, lpF (fX4_mixedInto_L13 θ (fX6_digest_V170 β γ η θ)) a (len θ) = lpF (fX7_digest_L440 μ) a (tl μ) := fun a => by
    rw [hl, hl2]
    refine lpF_congr _ fun i x hi => ?_
    unfold fX4_mixedInto_L13 fX6_mixed fX7_digest_L440
    rw [(hT.2 i (by rw [hl2]; exact hi)).1]
  have key : (fX6_digest β γ η θ).1 = lpF (fX7_digest_L440 μ) ((31 * (31 * ((31 * (fX7_digest_V383 μ)) + (if i2b ((fX7_digest_S2 μ).2 4 0) = true then (1 : Int32).toInt64 else (0 : Int32).toInt64)) + (if i2b ((fX7_digest_S2 μ).2 4 1) = true then (1 : Int32).toInt64 else (0 : Int32).toInt64))) + (((fX7_digest_S2 μ).1 2).toInt64)) (tl μ) := by
    show fX4_mixedInto θ (fX6_digest_V170 β γ η θ) = _
    unfold fX4_mixedInto
    rw [eT]
    unfold fX6_mixed
    rw [v170, hT.1]
  rw [key]
  unfold fX7_digest
  by_cases c0 : (fX7_digest_S2 μ).2 4 0 = 0
  · rw [if_pos c0, i2b_0 c0, if_neg (show ¬ (false = true) by decide)]
    by_cases c1 : (fX7_digest_S2 μ).2 4 1 = 0
    · rw [if_pos c1, i2b_0 c1, if_neg (show ¬ (false = true) by decide)]
      exact ⟨rfl, r2⟩
    · rw [if_neg c1, i2b_n c1, if_pos rfl]
      exact ⟨rfl, r2⟩
  · rw [if_neg c0, i2b_n c0, if_pos rfl]
    by_cases c1 : (fX7_digest_S2 μ).2 4 1 = 0
    · rw [if_pos c1, i2b_0 c1, if_neg (show ¬ (false = true) by decide)]
      exact ⟨rfl, r2⟩
    · rw [if_neg c1, i2b_n c1, if_pos rfl]
      exact ⟨rfl, r2⟩
