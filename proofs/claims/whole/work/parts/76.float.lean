/-! ===== floats: numbers that are numbers ===== -/
theorem n64_iff (r : UInt64) : vf_n64 r ↔ FP.Core.val64 r ≠ .nan := by
  rw [← FP.Core.notNaN_iff]
  have h1 := FP.Core.isNaN_bits r
  have h2 : vf_n64 r ↔ r.toNat % 2 ^ 63 ≤ 9218868437227405312 := by
    unfold vf_n64
    rw [UInt64.le_iff_toNat_le, UInt64.toNat_and]
    have e1 : (0x7fffffffffffffff : UInt64).toNat = 2 ^ 63 - 1 := by decide
    have e2 : (0x7ff0000000000000 : UInt64).toNat = 9218868437227405312 := by decide
    rw [e1, e2, Nat.and_two_pow_sub_one_eq_mod]
  rw [h2]
  constructor
  · intro q
    refine tf_of fun z => ?_
    have := h1.mp z
    omega
  · intro q
    rcases Nat.lt_or_ge 9218868437227405312 (r.toNat % 2 ^ 63) with z | z
    · rw [h1.mpr z] at q; cases q
    · exact z
theorem rr_nan (f : FP.Core.Fmt) (s : Bool) (A B : Nat) (e : Int) : FP.Core.roundRatio f s A B e ≠ .nan := by
  unfold FP.Core.roundRatio
  split
  · intro q; cases q
  · unfold FP.Core.roundAt FP.Core.settle FP.Core.bound
    split <;> split <;> intro q <;> cases q
theorem rd_nan {f : FP.Core.Fmt} {d : FP.Core.Datum} (h : d ≠ .nan) : FP.Core.round f d ≠ .nan := by
  cases d with
  | nan => exact absurd rfl h
  | inf s => exact fun q => by cases q
  | fin s c q => exact rr_nan _ _ _ _ _
theorem v_2 : FP.Core.val64 4611686018427387904 = .fin false (2 ^ 52) (-51) := by decide +kernel
theorem v_1 : FP.Core.val64 FP.dconst1 = .fin false (2 ^ 52) (-52) := by decide +kernel
theorem v_52 : FP.Core.val64 4841369599423283200 = .fin false (2 ^ 52) 0 := by decide +kernel
theorem v_0 : FP.Core.val64 0 = .fin false 0 (-1074) := by decide +kernel
theorem q_min : FP.Core.b64.qmin = -1074 := by decide +kernel
theorem q_max : FP.Core.b64.qmax = 971 := by decide +kernel
theorem t_52 : FP.Core.b64.tails = 2 ^ 52 := by decide +kernel
theorem p_53 : FP.Core.b64.p = 53 := rfl
theorem hFP : gFP := by
  refine ⟨fun x hx => ?_, fun x hx => ?_, fun x hx => ⟨?_, ?_⟩⟩
  · rw [n64_iff] at hx ⊢
    rw [show FP.ddiv x 4611686018427387904 = FP.Core.ddiv x 4611686018427387904 from rfl, FP.Core.val64_ddiv, v_2]
    cases h : FP.Core.val64 x with
    | nan => exact absurd h hx
    | inf s => exact fun q => by cases q
    | fin s c q =>
      show (if (2 : Nat) ^ 52 = 0 then (if c = 0 then FP.Core.Datum.nan else .inf (s != false)) else FP.Core.roundRatio FP.Core.b64 (s != false) c (2 ^ 52) (q - (-51))) ≠ _
      rw [if_neg (by decide)]
      exact rr_nan _ _ _ _ _
  · rw [n64_iff] at hx ⊢
    rw [show FP.dmul x 4611686018427387904 = FP.Core.dmul x 4611686018427387904 from rfl, FP.Core.val64_dmul, v_2]
    refine rd_nan ?_
    cases h : FP.Core.val64 x with
    | nan => exact absurd h hx
    | inf s =>
      show (if (2 : Nat) ^ 52 = 0 then FP.Core.Datum.nan else .inf (s != false)) ≠ _
      rw [if_neg (by decide)]
      exact fun q => by cases q
    | fin s c q => exact fun q => by cases q
  · rw [n64_iff] at hx ⊢
    rw [show FP.dsub x FP.dconst1 = FP.Core.dsub x FP.dconst1 from rfl, FP.Core.val64_dsub, v_1]
    refine rd_nan ?_
    cases h : FP.Core.val64 x with
    | nan => exact absurd h hx
    | inf s => exact fun q => by cases q
    | fin s c q => exact fun q => by cases q
  · rw [n64_iff] at hx ⊢
    rw [show FP.dmul (FP.dsub x FP.dconst1) 4841369599423283200 = FP.Core.dmul (FP.Core.dsub x FP.dconst1) 4841369599423283200 from rfl, FP.Core.val64_dmul, v_52, FP.Core.val64_dsub, v_1]
    refine rd_nan ?_
    have h1 : FP.Core.round FP.Core.b64 (FP.Core.exactSum (FP.Core.val64 x) (FP.Core.negate (.fin false (2 ^ 52) (-52)))) ≠ .nan := by
      refine rd_nan ?_
      cases h : FP.Core.val64 x with
      | nan => exact absurd h hx
      | inf s => exact fun q => by cases q
      | fin s c q => exact fun q => by cases q
    generalize FP.Core.round FP.Core.b64 (FP.Core.exactSum (FP.Core.val64 x) (FP.Core.negate (.fin false (2 ^ 52) (-52)))) = y at h1
    cases y with
    | nan => exact absurd rfl h1
    | inf s =>
      show (if (2 : Nat) ^ 52 = 0 then FP.Core.Datum.nan else .inf (s != false)) ≠ _
      rw [if_neg (by decide)]
      exact fun q => by cases q
    | fin s c q => exact fun q => by cases q
theorem hNN : gNN := by
  intro x y hy
  rw [n64_iff, show FP.ddiv (FP.i2d x) (FP.i2d y) = FP.Core.ddiv (FP.Core.i2d x) (FP.Core.i2d y) from rfl, FP.Core.val64_ddiv]
  obtain ⟨s, c, q, hx⟩ := FP.Core.i2d_fin x
  obtain ⟨s2, c2, q2, hy2⟩ := FP.Core.i2d_fin y
  rw [hx, hy2]
  have hz : c2 ≠ 0 := by
    intro e
    have h1 := FP.Core.i2d_ne_zero hy
    have h2 := (FP.Core.zero_bits2 (FP.Core.i2d y)).mp (show FP.Core.DZero (FP.Core.i2d y) from ⟨s2, q2, by rw [hy2, e]⟩)
    exact h1 h2
  show (if c2 = 0 then (if c = 0 then FP.Core.Datum.nan else .inf (s != s2)) else FP.Core.roundRatio FP.Core.b64 (s != s2) c c2 (q - q2)) ≠ _
  rw [if_neg hz]
  exact rr_nan _ _ _ _ _
theorem hDZ : ∀ x, vf_n64 x → dcmpFl x x = 0 := by
  intro x hx
  unfold dcmpFl
  rw [show FP.dcmp x x = some .eq from FP.Core.dcmp_self ((n64_iff x).mp hx)]
  rfl
