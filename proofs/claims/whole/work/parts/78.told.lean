/-! ===== floats: the digits told by doubling and halving ===== -/
theorem lN_p (n : Nat) : lN (n + 1) - 1 = lN n := by rw [← lN_1]; simp
theorem nl1100 {i : Nat} (hi : i < 1100) : ¬ (1100 : Int32) ≤ nI i := fun q => by
  have := (nI_leI (a := 1100) (b := i) (by omega) (by omega)).mp q
  omega
theorem R56_key {x0 : UInt64} {c : Nat} (hc : 2 ^ 52 ≤ c) (hc2 : c < 2 ^ 53) : ∀ (k d i E : Nat) (x : UInt64), k < d → i + k < 800 → FP.Core.val64 x = .fin false c (-52 - (k : Int)) → fX6_bitsOf_R56 x0 d i (lN (E + k), x) = (lN E <<< ((52 : Int32).toInt64 &&& 63)) + Int64.ofInt ((c - 2 ^ 52 : Nat) : Int) := by
  intro k
  induction k with
  | zero =>
    intro d i E x hd hi h
    obtain ⟨d, rfl⟩ : ∃ d', d = d' + 1 := ⟨d - 1, by omega⟩
    have h : FP.Core.val64 x = .fin false c (-52) := h
    rw [fX6_bitsOf_R56, if_neg (nl1100 (by omega)), if_pos (show 0 ≤ dcmpFg ((lN (E + 0), x) : Int64 × UInt64).2 FP.dconst1 from (cmp_1 h hc hc2).mpr (by omega))]
    show (lN (E + 0) <<< _) + FP.d2l (FP.dmul (FP.dsub x FP.dconst1) 4841369599423283200) = _
    rw [fin_last h hc hc2]
    rfl
  | succ k ih =>
    intro d i E x hd hi h
    obtain ⟨d, rfl⟩ : ∃ d', d = d' + 1 := ⟨d - 1, by omega⟩
    rw [fX6_bitsOf_R56, if_neg (nl1100 (by omega)), if_neg (show ¬ 0 ≤ dcmpFg ((lN (E + (k + 1)), x) : Int64 × UInt64).2 FP.dconst1 from fun q => by
      have := (cmp_1 h hc hc2).mp q
      omega)]
    have h2 := fin_double h hc hc2 (by omega) (by omega)
    have e : ((lN (E + (k + 1)), x) : Int64 × UInt64).1 - 1 = lN (E + k) := lN_p (E + k)
    rw [e]
    exact ih d (i + 1) E _ (by omega) (by omega) (by
      show FP.Core.val64 (FP.dmul x 4611686018427387904) = _
      rw [h2]
      congr 1
      omega)
theorem R18_key {x0 : UInt64} {c : Nat} (hc : 2 ^ 52 ≤ c) (hc2 : c < 2 ^ 53) : ∀ (k d i E : Nat) (x : UInt64), k < d → i + k < 800 → FP.Core.val64 x = .fin false c (-52 + (k : Int)) → fX6_bitsOf_R18 x0 d i (lN E, x) = (lN (E + k) <<< ((52 : Int32).toInt64 &&& 63)) + Int64.ofInt ((c - 2 ^ 52 : Nat) : Int) := by
  intro k
  induction k with
  | zero =>
    intro d i E x hd hi h
    obtain ⟨d, rfl⟩ : ∃ d', d = d' + 1 := ⟨d - 1, by omega⟩
    have h : FP.Core.val64 x = .fin false c (-52) := h
    rw [fX6_bitsOf_R18, if_neg (nl1100 (by omega)), if_pos (show dcmpFl ((lN E, x) : Int64 × UInt64).2 4611686018427387904 < 0 from (cmp_2 h hc hc2).mpr (by omega))]
    exact R56_key hc hc2 0 (1100 + 1) 0 E x (by omega) (by omega) h
  | succ k ih =>
    intro d i E x hd hi h
    obtain ⟨d, rfl⟩ : ∃ d', d = d' + 1 := ⟨d - 1, by omega⟩
    rw [fX6_bitsOf_R18, if_neg (nl1100 (by omega)), if_neg (show ¬ dcmpFl ((lN E, x) : Int64 × UInt64).2 4611686018427387904 < 0 from fun q => by
      have := (cmp_2 h hc hc2).mp q
      omega)]
    have h2 := fin_halve h hc hc2 (by omega) (by omega)
    have e : ((lN E, x) : Int64 × UInt64).1 + 1 = lN (E + 1) := lN_1 E
    rw [e, show E + (k + 1) = (E + 1) + k by omega]
    exact ih d (i + 1) (E + 1) _ (by omega) (by omega) (by
      show FP.Core.val64 (FP.ddiv x 4611686018427387904) = _
      rw [h2]
      congr 1
      omega)
theorem bitsOf_fin {x : UInt64} {c : Nat} {q : Int} (h : FP.Core.val64 x = .fin false c q) (hc : 2 ^ 52 ≤ c) (hc2 : c < 2 ^ 53) (hq : -400 ≤ q) (hq2 : q ≤ 400) : fX6_bitsOf x = (lN (q + 1075).toNat <<< ((52 : Int32).toInt64 &&& 63)) + Int64.ofInt ((c - 2 ^ 52 : Nat) : Int) := by
  unfold fX6_bitsOf
  rw [if_pos (cmp_0 h hc (by omega))]
  by_cases k : -52 ≤ q
  · obtain ⟨j, hj⟩ : ∃ j : Nat, q = -52 + (j : Int) := ⟨(q + 52).toNat, by omega⟩
    have := R18_key (x0 := x) hc hc2 j (1100 + 1) 0 1023 x (by omega) (by omega) (by rw [h, hj])
    rw [show (q + 1075).toNat = 1023 + j by omega]
    exact this
  · obtain ⟨j, hj⟩ : ∃ j : Nat, q = -52 - (j : Int) := ⟨(-52 - q).toNat, by omega⟩
    rw [fX6_bitsOf_R18, if_neg (nl1100 (by omega)), if_pos (show dcmpFl (((1023 : Int64), x) : Int64 × UInt64).2 4611686018427387904 < 0 from (cmp_2 h hc hc2).mpr (by omega))]
    have := R56_key (x0 := x) hc hc2 j (1100 + 1) 0 (1023 - j) x (by omega) (by omega) (by rw [h, hj])
    rw [show 1023 - j + j = 1023 by omega] at this
    rw [show (q + 1075).toNat = 1023 - j by omega]
    exact this
theorem pack_bits {E M : Nat} (hE : E < 2048) (hM : M < 2 ^ 52) : (lN E <<< ((52 : Int32).toInt64 &&& 63)) + Int64.ofInt ((M : Nat) : Int) = (UInt64.ofNat (E * 2 ^ 52 + M)).toInt64 := by
  apply Int64.toBitVec_inj.mp
  rw [Int64.toBitVec_add, Int64.toBitVec_shiftLeft]
  apply BitVec.eq_of_toNat_eq
  have e1 : (lN E).toBitVec = BitVec.ofNat 64 E := rfl
  have e2 : (Int64.ofInt ((M : Nat) : Int)).toBitVec = BitVec.ofNat 64 M := by
    show BitVec.ofInt 64 (M : Int) = _
    simp
  have e3 : (UInt64.ofNat (E * 2 ^ 52 + M)).toInt64.toBitVec = BitVec.ofNat 64 (E * 2 ^ 52 + M) := rfl
  have e4 : ((((52 : Int32).toInt64 &&& 63) : Int64).toBitVec.smod 64).toNat = 52 := by decide +kernel
  rw [e1, e2, e3]
  simp only [BitVec.toNat_add, BitVec.shiftLeft_eq', BitVec.toNat_shiftLeft, BitVec.toNat_ofNat, e4, Nat.shiftLeft_eq]
  omega
theorem enc_fin {c : Nat} {q : Int} (hc : 2 ^ 52 ≤ c) : FP.Core.encode FP.Core.b64 (.fin false c q) = FP.Core.assemble FP.Core.b64 false ((q - FP.Core.b64.qmin).toNat + 1) (c - FP.Core.b64.tails) := if_neg (by rw [t_52]; omega)
theorem long_bits {x : UInt64} {c : Nat} {q : Int} (h : FP.Core.val64 x = .fin false c q) (hc : 2 ^ 52 ≤ c) (hc2 : c < 2 ^ 53) (hq : -400 ≤ q) (hq2 : q ≤ 400) : x = UInt64.ofNat ((q + 1075).toNat * 2 ^ 52 + (c - 2 ^ 52)) := by
  have hn : FP.Core.val64 x ≠ .nan := by rw [h]; exact fun z => by cases z
  have h1 := FP.Core.of64_val64 hn
  rw [h] at h1
  rw [← h1, show FP.Core.of64 (.fin false c q) = UInt64.ofNat (FP.Core.encode FP.Core.b64 (.fin false c q)) from rfl, enc_fin hc]
  unfold FP.Core.assemble
  rw [t_52, q_min, show Bool.toNat false = 0 from rfl, Nat.zero_mul, Nat.zero_add, show (q - -1074).toNat + 1 = (q + 1075).toNat by omega]
theorem nan_no {x : UInt64} (h : FP.Core.val64 x ≠ .nan) : fJxe99ae_doubleToLongBits_ccdee x = x.toInt64 := by
  unfold fJxe99ae_doubleToLongBits_ccdee fJxe99ae_isNaN_b9ae7
  rw [hDZ x ((n64_iff x).mpr h), if_pos rfl, if_neg (by decide)]
theorem bits_same {x : UInt64} {c : Nat} {q : Int} (h : FP.Core.val64 x = .fin false c q) (hc : 2 ^ 52 ≤ c) (hc2 : c < 2 ^ 53) (hq : -400 ≤ q) (hq2 : q ≤ 400) : fX6_bitsOf x = fJxe99ae_doubleToLongBits_ccdee x := by
  rw [nan_no (by rw [h]; exact fun z => by cases z), bitsOf_fin h hc hc2 hq hq2, pack_bits (by omega) (by omega), ← long_bits h hc hc2 hq hq2]
