/-! ===== floats: the digits of a positive number ===== -/
theorem fit9 {c : Nat} {q : Int} (hc : 2 ^ 52 ≤ c) (hc2 : c < 2 ^ 53) (hq : -1074 ≤ q) (hq2 : q ≤ 971) : FP.Core.fits FP.Core.b64 (.fin false c q) := ⟨hc2, by rw [q_min]; exact hq, by rw [q_max]; exact hq2, Or.inr (by rw [t_52]; exact hc)⟩
theorem fin_halve {x : UInt64} {c : Nat} {q : Int} (h : FP.Core.val64 x = .fin false c q) (hc : 2 ^ 52 ≤ c) (hc2 : c < 2 ^ 53) (hq : -900 ≤ q) (hq2 : q ≤ 900) : FP.Core.val64 (FP.ddiv x 4611686018427387904) = .fin false c (q - 1) := by
  rw [show FP.ddiv x 4611686018427387904 = FP.Core.ddiv x 4611686018427387904 from rfl, FP.Core.val64_ddiv, h, v_2]
  show (if (2 : Nat) ^ 52 = 0 then (if c = 0 then FP.Core.Datum.nan else .inf (false != false)) else FP.Core.roundRatio FP.Core.b64 (false != false) c (2 ^ 52) (q - (-51))) = _
  rw [if_neg (by decide)]
  refine FP.Core.roundRatio_exact FP.Core.good_b64 (by decide) (fit9 hc hc2 (by omega) (by omega)) ?_
  rw [show (q - -51 - (q - 1)).toNat = 52 by omega, show (q - 1 - (q - -51)).toNat = 0 by omega, Nat.pow_zero, Nat.mul_one]
theorem fin_double {x : UInt64} {c : Nat} {q : Int} (h : FP.Core.val64 x = .fin false c q) (hc : 2 ^ 52 ≤ c) (hc2 : c < 2 ^ 53) (hq : -900 ≤ q) (hq2 : q ≤ 900) : FP.Core.val64 (FP.dmul x 4611686018427387904) = .fin false c (q + 1) := by
  rw [show FP.dmul x 4611686018427387904 = FP.Core.dmul x 4611686018427387904 from rfl, FP.Core.val64_dmul, h, v_2]
  show FP.Core.roundRatio FP.Core.b64 (false != false) (c * 2 ^ 52) 1 (q + (-51)) = _
  refine FP.Core.roundRatio_exact FP.Core.good_b64 (by decide) (fit9 hc hc2 (by omega) (by omega)) ?_
  rw [show (q + -51 - (q + 1)).toNat = 0 by omega, show (q + 1 - (q + -51)).toNat = 52 by omega, Nat.pow_zero, Nat.mul_one, Nat.mul_one]
theorem cmp_lt9 {a b : Int} (h : a < b) : compare a b = .lt := by
  show compareOfLessAndEq a b = _
  unfold compareOfLessAndEq
  rw [if_pos h]
theorem cmp_ge9 {a b : Int} (h : ¬ a < b) : compare a b = .eq ∨ compare a b = .gt := by
  show compareOfLessAndEq a b = _ ∨ compareOfLessAndEq a b = _
  unfold compareOfLessAndEq
  rw [if_neg h]
  split
  · exact Or.inl rfl
  · exact Or.inr rfl
theorem ord9 {x y : UInt64} {c d : Nat} {q r : Int} (h : FP.Core.val64 x = .fin false c q) (g : FP.Core.val64 y = .fin false d r) : FP.dcmp x y = some (compare ((c * 2 ^ (q - min q r).toNat : Nat) : Int) ((d * 2 ^ (r - min q r).toNat : Nat) : Int)) := by
  show FP.Core.order (FP.Core.val64 x) (FP.Core.val64 y) = _
  rw [h, g]
  rfl
theorem two9 {k : Nat} (hk : 1 ≤ k) : 2 ^ 53 ≤ 2 ^ 52 * 2 ^ k := by
  have : 2 ^ 1 ≤ 2 ^ k := Nat.pow_le_pow_right (n := 2) (by decide) hk
  omega
theorem cmp_2 {x : UInt64} {c : Nat} {q : Int} (h : FP.Core.val64 x = .fin false c q) (hc : 2 ^ 52 ≤ c) (hc2 : c < 2 ^ 53) : dcmpFl x 4611686018427387904 < 0 ↔ q ≤ -52 := by
  unfold dcmpFl
  rw [ord9 h v_2]
  by_cases k : q ≤ -52
  · rw [show min q (-51) = q by omega, show (q - q).toNat = 0 by omega, Nat.pow_zero, Nat.mul_one]
    have h9 := two9 (k := (-51 - q).toNat) (by omega)
    rw [cmp_lt9 (by omega)]
    exact iff_of_true (by decide) k
  · rw [show min q (-51) = -51 by omega, show (-51 - -51 : Int).toNat = 0 by decide, Nat.pow_zero, Nat.mul_one]
    have h9 : c ≤ c * 2 ^ (q - -51).toNat := Nat.le_mul_of_pos_right _ (Nat.two_pow_pos _)
    rcases cmp_ge9 (a := ((c * 2 ^ (q - -51).toNat : Nat) : Int)) (b := ((2 ^ 52 : Nat) : Int)) (by omega) with e | e
    · rw [e]; exact iff_of_false (by decide) k
    · rw [e]; exact iff_of_false (by decide) k
theorem cmp_1 {x : UInt64} {c : Nat} {q : Int} (h : FP.Core.val64 x = .fin false c q) (hc : 2 ^ 52 ≤ c) (hc2 : c < 2 ^ 53) : 0 ≤ dcmpFg x FP.dconst1 ↔ -52 ≤ q := by
  unfold dcmpFg
  rw [ord9 h v_1]
  by_cases k : q ≤ -53
  · rw [show min q (-52) = q by omega, show (q - q).toNat = 0 by omega, Nat.pow_zero, Nat.mul_one]
    have h9 := two9 (k := (-52 - q).toNat) (by omega)
    rw [cmp_lt9 (by omega)]
    exact iff_of_false (by decide) (by omega)
  · rw [show min q (-52) = -52 by omega, show (-52 - -52 : Int).toNat = 0 by decide, Nat.pow_zero, Nat.mul_one]
    have h9 : c ≤ c * 2 ^ (q - -52).toNat := Nat.le_mul_of_pos_right _ (Nat.two_pow_pos _)
    rcases cmp_ge9 (a := ((c * 2 ^ (q - -52).toNat : Nat) : Int)) (b := ((2 ^ 52 : Nat) : Int)) (by omega) with e | e
    · rw [e]; exact iff_of_true (by decide) (by omega)
    · rw [e]; exact iff_of_true (by decide) (by omega)
theorem cmp_0 {x : UInt64} {c : Nat} {q : Int} (h : FP.Core.val64 x = .fin false c q) (hc : 2 ^ 52 ≤ c) (hq : -900 ≤ q) : 0 < dcmpFg x 0 := by
  unfold dcmpFg
  rw [ord9 h v_0, Nat.zero_mul]
  have h9 : c ≤ c * 2 ^ (q - min q (-1074)).toNat := Nat.le_mul_of_pos_right _ (Nat.two_pow_pos _)
  generalize c * 2 ^ (q - min q (-1074)).toNat = z at h9
  have e : compare ((z : Nat) : Int) ((0 : Nat) : Int) = .gt := by
    show compareOfLessAndEq _ _ = _
    unfold compareOfLessAndEq
    rw [if_neg (by omega), if_neg (by omega)]
  rw [e]
  decide
/-- what is below the leading digit -/
theorem low_val {M : Nat} (hM : M < 2 ^ 52) : ∃ c k : Nat, FP.Core.roundRatio FP.Core.b64 false M 1 (-52) = .fin false c (-52 - (k : Int)) ∧ c = M * 2 ^ k ∧ k ≤ 1022 ∧ (c < 2 ^ 53 ∧ (k = 1022 ∨ 2 ^ 52 ≤ c)) := by
  by_cases h0 : M = 0
  · subst h0
    refine ⟨0, 1022, ?_, by simp, by omega, by decide, Or.inl rfl⟩
    unfold FP.Core.roundRatio
    rw [if_pos rfl, q_min]
    rfl
  · have l1 : 2 ^ M.log2 ≤ M := Nat.log2_self_le h0
    have l2 : M < 2 ^ (M.log2 + 1) := Nat.lt_log2_self
    have l3 : M.log2 < 52 := (Nat.log2_lt h0).mpr hM
    have e52 : 2 ^ 52 = 2 ^ M.log2 * 2 ^ (52 - M.log2) := by rw [← Nat.pow_add]; congr 1; omega
    have e53 : 2 ^ 53 = 2 ^ (M.log2 + 1) * 2 ^ (52 - M.log2) := by rw [← Nat.pow_add]; congr 1; omega
    have p := Nat.two_pow_pos (52 - M.log2)
    have b1 : 2 ^ 52 ≤ M * 2 ^ (52 - M.log2) := by rw [e52]; exact Nat.mul_le_mul_right _ l1
    have b2 : M * 2 ^ (52 - M.log2) < 2 ^ 53 := by rw [e53]; exact Nat.mul_lt_mul_of_pos_right l2 p
    refine ⟨M * 2 ^ (52 - M.log2), 52 - M.log2, ?_, rfl, by omega, b2, Or.inr b1⟩
    refine FP.Core.roundRatio_exact FP.Core.good_b64 (by decide) (fit9 b1 b2 (by omega) (by omega)) ?_
    rw [show (-52 - (-52 - ((52 - M.log2 : Nat) : Int))).toNat = 52 - M.log2 by omega, show ((-52 - ((52 - M.log2 : Nat) : Int)) - -52).toNat = 0 by omega, Nat.pow_zero, Nat.mul_one, Nat.mul_one]
theorem fin_last {x : UInt64} {c : Nat} (h : FP.Core.val64 x = .fin false c (-52)) (hc : 2 ^ 52 ≤ c) (hc2 : c < 2 ^ 53) : FP.d2l (FP.dmul (FP.dsub x FP.dconst1) 4841369599423283200) = Int64.ofInt ((c - 2 ^ 52 : Nat) : Int) := by
  obtain ⟨M, rfl⟩ : ∃ M, c = 2 ^ 52 + M := ⟨c - 2 ^ 52, by omega⟩
  rw [show 2 ^ 52 + M - 2 ^ 52 = M by omega]
  have hs : FP.Core.val64 (FP.Core.dsub x FP.dconst1) = FP.Core.roundRatio FP.Core.b64 false M 1 (-52) := by
    rw [FP.Core.val64_dsub, h, v_1]
    show FP.Core.roundRatio FP.Core.b64 (FP.Core.sumSign false true (FP.Core.sumUnits false (2 ^ 52 + M) (-52) true (2 ^ 52) (-52) (min (-52) (-52)))) (FP.Core.sumUnits false (2 ^ 52 + M) (-52) true (2 ^ 52) (-52) (min (-52) (-52))).natAbs 1 (min (-52) (-52)) = _
    have e : FP.Core.sumUnits false (2 ^ 52 + M) (-52) true (2 ^ 52) (-52) (min (-52) (-52)) = (M : Int) := by
      show (((2 ^ 52 + M) * 2 ^ (-52 - min (-52) (-52) : Int).toNat : Nat) : Int) + -(((2 ^ 52) * 2 ^ (-52 - min (-52) (-52) : Int).toNat : Nat) : Int) = _
      rw [show (-52 - min (-52) (-52) : Int).toNat = 0 by decide, Nat.pow_zero, Nat.mul_one, Nat.mul_one]
      omega
    rw [e]
    have s : FP.Core.sumSign false true (M : Int) = false := by
      unfold FP.Core.sumSign
      split
      · rfl
      · exact decide_eq_false (by omega)
    rw [s, Int.natAbs_natCast]
    rfl
  obtain ⟨c', k, e1, e2, hk, hc', hk2⟩ := low_val (M := M) (by omega)
  rw [e1] at hs
  have hm : FP.Core.val64 (FP.Core.dmul (FP.Core.dsub x FP.dconst1) 4841369599423283200) = FP.Core.roundRatio FP.Core.b64 false (c' * 2 ^ 52) 1 (-52 - (k : Int) + 0) := by
    rw [FP.Core.val64_dmul, hs, v_52]
    rfl
  have ht : FP.Core.roundRatio FP.Core.b64 false (c' * 2 ^ 52) 1 (-52 - (k : Int) + 0) = if c' = 0 then .fin false 0 (-1074) else .fin false c' (-(k : Int)) := by
    by_cases z : c' = 0
    · rw [if_pos z, z, Nat.zero_mul]
      unfold FP.Core.roundRatio
      rw [if_pos rfl, q_min]
    · rw [if_neg z]
      have hk3 : 2 ^ 52 ≤ c' := by
        rcases hk2 with w | w
        · subst w
          have h1 : 1 ≤ M := by
            rcases Nat.eq_zero_or_pos M with u | u
            · rw [u, Nat.zero_mul] at e2; exact absurd e2 z
            · exact u
          have h2 : 2 ^ 1022 ≤ M * 2 ^ 1022 := Nat.le_mul_of_pos_left _ h1
          have h3 : (2 : Nat) ^ 53 ≤ 2 ^ 1022 := Nat.pow_le_pow_right (n := 2) (by decide) (by omega)
          rw [← e2] at h2
          omega
        · exact w
      refine FP.Core.roundRatio_exact FP.Core.good_b64 (by decide) (fit9 hk3 hc' (by omega) (by omega)) ?_
      rw [show (-52 - (k : Int) + 0 - -(k : Int)).toNat = 0 by omega, show (-(k : Int) - (-52 - (k : Int) + 0)).toNat = 52 by omega, Nat.pow_zero, Nat.mul_one, Nat.mul_one]
  show FP.Core.toL (FP.Core.val64 (FP.Core.dmul (FP.Core.dsub x FP.dconst1) 4841369599423283200)) = _
  rw [hm, ht]
  have hp := Nat.two_pow_pos k
  by_cases z : c' = 0
  · rw [if_pos z]
    have hM : M = 0 := by
      rw [z] at e2
      rcases Nat.eq_zero_or_pos M with u | u
      · exact u
      · have := Nat.mul_pos u hp
        omega
    subst hM
    show Int64.ofInt (max (-2 ^ 63) (min (2 ^ 63 - 1) ((0 * 2 ^ (-1074 : Int).toNat / 2 ^ (-(-1074 : Int)).toNat : Nat) : Int))) = _
    rw [Nat.zero_mul, Nat.zero_div]
    rfl
  · rw [if_neg z]
    show Int64.ofInt (max (-2 ^ 63) (min (2 ^ 63 - 1) ((c' * 2 ^ (-(k : Int)).toNat / 2 ^ (- -(k : Int)).toNat : Nat) : Int))) = _
    rw [show (-(k : Int)).toNat = 0 by omega, show (- -(k : Int)).toNat = k by omega, Nat.pow_zero, Nat.mul_one, e2, Nat.mul_div_cancel _ hp]
    congr 1
    omega
