/-! ===== floats: the mean ===== -/
theorem int_val {D : Nat} (h1 : 1 ≤ D) (h2 : D < 2 ^ 30) : ∃ k : Nat, k ≤ 52 ∧ FP.Core.val64 (FP.Core.i2d (nI D)) = .fin false (D * 2 ^ k) (-(k : Int)) := by
  have l1 : 2 ^ D.log2 ≤ D := Nat.log2_self_le (by omega)
  have l2 : D < 2 ^ (D.log2 + 1) := Nat.lt_log2_self
  have l3 : D.log2 < 30 := (Nat.log2_lt (by omega)).mpr h2
  have e52 : 2 ^ 52 = 2 ^ D.log2 * 2 ^ (52 - D.log2) := by rw [← Nat.pow_add]; congr 1; omega
  have e53 : 2 ^ 53 = 2 ^ (D.log2 + 1) * 2 ^ (52 - D.log2) := by rw [← Nat.pow_add]; congr 1; omega
  have p := Nat.two_pow_pos (52 - D.log2)
  have b1 : 2 ^ 52 ≤ D * 2 ^ (52 - D.log2) := by rw [e52]; exact Nat.mul_le_mul_right _ l1
  have b2 : D * 2 ^ (52 - D.log2) < 2 ^ 53 := by rw [e53]; exact Nat.mul_lt_mul_of_pos_right l2 p
  refine ⟨52 - D.log2, by omega, ?_⟩
  rw [FP.Core.val64_i2d, nI_toInt (by omega)]
  show FP.Core.roundRatio FP.Core.b64 (decide ((D : Int) < 0)) (D : Int).natAbs 1 0 = _
  rw [decide_eq_false (by omega), Int.natAbs_natCast]
  refine FP.Core.roundRatio_exact FP.Core.good_b64 (by decide) (fit9 b1 b2 (by omega) (by omega)) ?_
  rw [show (0 - -((52 - D.log2 : Nat) : Int)).toNat = 52 - D.log2 by omega, show (-((52 - D.log2 : Nat) : Int) - 0).toNat = 0 by omega, Nat.pow_zero, Nat.mul_one, Nat.mul_one]
theorem rr_range {D c : Nat} (hD : 1 ≤ D) (hD2 : D < 2 ^ 20) (hc : 1 ≤ c) (hc2 : c < 2 ^ 10) : ∃ (m : Nat) (q : Int), FP.Core.roundRatio FP.Core.b64 false D c 0 = .fin false m q ∧ 2 ^ 52 ≤ m ∧ m < 2 ^ 53 ∧ -400 ≤ q ∧ q ≤ 400 := by
  have d3 : D.log2 < 20 := (Nat.log2_lt (by omega)).mpr hD2
  have c3 : c.log2 < 10 := (Nat.log2_lt (by omega)).mpr hc2
  have hl : -20 ≤ FP.Core.leading D c ∧ FP.Core.leading D c ≤ 20 := by
    unfold FP.Core.leading
    dsimp only
    split <;> omega
  obtain ⟨Q, hQ⟩ : ∃ Q, FP.Core.quantum FP.Core.b64 D c 0 = Q := ⟨_, rfl⟩
  have hQb : -100 ≤ Q ∧ Q ≤ 0 := by
    rw [← hQ]
    unfold FP.Core.quantum
    rw [q_min, p_53]
    omega
  have hf := FP.Core.roundRatio_fits FP.Core.good_b64 false D (show 0 < c by omega) 0
  have key : ∃ (m : Nat) (q : Int), FP.Core.roundRatio FP.Core.b64 false D c 0 = .fin false m q ∧ -400 ≤ q ∧ q ≤ 400 := by
    unfold FP.Core.roundRatio
    rw [if_neg (by omega)]
    unfold FP.Core.roundAt
    rw [hQ]
    unfold FP.Core.settle FP.Core.bound
    rw [q_max]
    split
    · rw [if_pos (by omega)]
      exact ⟨_, _, rfl, by omega, by omega⟩
    · rw [if_pos (by omega)]
      exact ⟨_, _, rfl, by omega, by omega⟩
  obtain ⟨m, q, e, q1, q2⟩ := key
  rw [e] at hf
  obtain ⟨f1, f2, f3, f4⟩ := hf
  rw [q_min, t_52] at f4
  rw [p_53] at f1
  refine ⟨m, q, e, ?_, f1, q1, q2⟩
  rcases f4 with z | z
  · omega
  · exact z
theorem mean_at {D c : Nat} (hD : 1 ≤ D) (hD2 : D < 2 ^ 20) (hc : 1 ≤ c) (hc2 : c < 2 ^ 10) : ∃ (m : Nat) (q : Int), FP.Core.val64 (FP.ddiv (FP.i2d (nI D)) (FP.i2d (nI c))) = .fin false m q ∧ 2 ^ 52 ≤ m ∧ m < 2 ^ 53 ∧ -400 ≤ q ∧ q ≤ 400 := by
  obtain ⟨m, q, e, r⟩ := rr_range hD hD2 hc hc2
  refine ⟨m, q, ?_, r⟩
  obtain ⟨k, hk, ek⟩ := int_val hD (by omega)
  obtain ⟨j, hj, ej⟩ := int_val hc (by omega)
  rw [show FP.ddiv (FP.i2d (nI D)) (FP.i2d (nI c)) = FP.Core.ddiv (FP.Core.i2d (nI D)) (FP.Core.i2d (nI c)) from rfl, FP.Core.val64_ddiv, ek, ej]
  have hp := Nat.two_pow_pos j
  have hz : ¬ c * 2 ^ j = 0 := by
    intro z
    have := Nat.mul_pos (show 0 < c by omega) hp
    omega
  show (if c * 2 ^ j = 0 then (if D * 2 ^ k = 0 then FP.Core.Datum.nan else .inf (false != false)) else FP.Core.roundRatio FP.Core.b64 (false != false) (D * 2 ^ k) (c * 2 ^ j) (-(k : Int) - -(j : Int))) = _
  rw [if_neg hz, ← e]
  refine FP.Core.roundRatio_congr (s := false) (Nat.mul_pos (by omega) hp) (by omega) ?_
  rcases Nat.le_total k j with w | w
  · rw [show (-(k : Int) - -(j : Int) - 0).toNat = j - k by omega, show (0 - (-(k : Int) - -(j : Int))).toNat = 0 by omega, Nat.pow_zero, Nat.mul_one]
    have : 2 ^ j = 2 ^ k * 2 ^ (j - k) := by rw [← Nat.pow_add]; congr 1; omega
    rw [this]
    ac_rfl
  · rw [show (-(k : Int) - -(j : Int) - 0).toNat = 0 by omega, show (0 - (-(k : Int) - -(j : Int))).toNat = k - j by omega, Nat.pow_zero, Nat.mul_one]
    have : 2 ^ k = 2 ^ j * 2 ^ (k - j) := by rw [← Nat.pow_add]; congr 1; omega
    rw [this]
    ac_rfl
theorem mean_sum {β μ : BS} (h : AL β μ) : ∃ D c : Nat, D ≤ 999 * cM μ ∧ c ≤ cM μ ∧ lpF (fX7_mean_L6 μ) (0, 0) (cM μ) = (nI D, nI c) := by
  have key : ∀ m, m ≤ cM μ → ∃ D c : Nat, D ≤ 999 * m ∧ c ≤ m ∧ lpF (fX7_mean_L6 μ) (0, 0) m = (nI D, nI c) := by
    intro m
    induction m with
    | zero => intro _; exact ⟨0, 0, by omega, by omega, rfl⟩
    | succ m ih =>
      intro hm
      obtain ⟨D, c, h1, h2, e⟩ := ih (by omega)
      rw [lpF_1, e]
      unfold fX7_mean_L6
      obtain ⟨-, -, ⟨d, hd, ed⟩, -⟩ := h.wt (t := m) (by omega)
      have hdy := h.b.2.2.2.2.2.2.2.2
      have ed : fX7_of μ m 7 = nI d := ed
      by_cases c3 : fX7_of μ m 2 = 3
      · rw [if_pos c3, ed]
        exact ⟨D + d, c + 1, by omega, by omega, by show (nI D + nI d, nI c + 1) = _; rw [nI_add, nI_1]⟩
      · rw [if_neg c3]
        exact ⟨D, c, by omega, by omega, by show (nI D + 0, nI c + 0) = _; rw [add_z, add_z]⟩
  exact key _ (Nat.le_refl _)
theorem bits_0 : fX6_bitsOf 0 = fJxe99ae_doubleToLongBits_ccdee 0 := by decide +kernel
theorem mean_bits {β μ : BS} (h : AL β μ) : fX6_bitsOf (fX7_mean μ) = fJxe99ae_doubleToLongBits_ccdee (fX7_mean μ) := by
  have hn := h.n20
  obtain ⟨D, c, hD, hc, e⟩ := mean_sum h
  unfold fX7_mean
  rw [e]
  show fX6_bitsOf (if nI c = 0 then 0 else FP.ddiv (FP.i2d (nI D)) (FP.i2d (nI c))) = _
  by_cases c0 : nI c = 0
  · rw [if_pos c0]
    exact bits_0
  · rw [if_neg c0]
    have hc1 : 1 ≤ c := by
      rcases Nat.eq_zero_or_pos c with z | z
      · subst z; exact absurd rfl c0
      · exact z
    rcases Nat.eq_zero_or_pos D with z | z
    · subst z
      obtain ⟨j, hj, ej⟩ := int_val hc1 (by omega)
      have v0 : FP.Core.val64 (FP.ddiv (FP.i2d (nI 0)) (FP.i2d (nI c))) = FP.Core.val64 0 := by
        rw [show FP.ddiv (FP.i2d (nI 0)) (FP.i2d (nI c)) = FP.Core.ddiv (FP.Core.i2d (nI 0)) (FP.Core.i2d (nI c)) from rfl, FP.Core.val64_ddiv, ej, show FP.Core.val64 (FP.Core.i2d (nI 0)) = .fin false 0 (-1074) by decide +kernel, v_0]
        have hp := Nat.two_pow_pos j
        have hz : ¬ c * 2 ^ j = 0 := by
          intro z
          have := Nat.mul_pos (show 0 < c by omega) hp
          omega
        show (if c * 2 ^ j = 0 then (if (0 : Nat) = 0 then FP.Core.Datum.nan else .inf (false != false)) else FP.Core.roundRatio FP.Core.b64 (false != false) 0 (c * 2 ^ j) (-1074 - -(j : Int))) = _
        rw [if_neg hz]
        unfold FP.Core.roundRatio
        rw [if_pos rfl, q_min]
        rfl
      have v1 : FP.ddiv (FP.i2d (nI 0)) (FP.i2d (nI c)) = 0 := FP.Core.val64_inj (by rw [v0, v_0]; exact fun z => by cases z) v0
      rw [v1]
      exact bits_0
    · obtain ⟨m, q, e1, m1, m2, q1, q2⟩ := mean_at z (by omega) hc1 (by omega)
      exact bits_same e1 m1 m2 q1 q2
theorem sh_digest : sH_digest Rl := fun β τ γ η σ θ μ h => dig_all h (fun ν hν => mean_bits hν)
