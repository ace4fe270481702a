/-! ===== floats: numbers that are numbers ===== -/
theorem n64_iff (r : UInt64) : vf_n64 r ↔ FP.Core.val64 r ≠ .nan := by
  rw [← FP.Core.notNaN_iff]
  have h1 := FP.Core.isNaN_bits r
  have h2 : vf_n64 r ↔ r.toNat % 2 ^ 63 ≤ 9218868437227405312 := by
    unfold vf_n64
    rw [UInt64.le_iff_toNat_le, UInt64.toNat_and]
    have e1 : (0x7fffffffffffffff : UInt64).toNat = 2 ^ 63 - 1 := by decide
    have e2 : (0x7ff0000000000000 : UInt64).toNat = 9218868437227405312 := by decide
    rw [e1, e2, Nat.and_two_pow_sub_one_eq_mod]
  rw [h2]
  constructor
  · intro q
    refine tf_of fun z => ?_
    have := h1.mp z
    omega
  · intro q
    rcases Nat.lt_or_ge 9218868437227405312 (r.toNat % 2 ^ 63) with z | z
    · rw [h1.mpr z] at q; cases q
    · exact z
theorem rr_nan (f : FP.Core.Fmt) (s : Bool) (A B : Nat) (e : Int) : FP.Core.roundRatio f s A B e ≠ .nan := by
  unfold FP.Core.roundRatio
  split
  · intro q; cases q
  · unfold FP.Core.roundAt FP.Core.settle FP.Core.bound
    split <;> split <;> intro q <;> cases q
theorem hNN : gNN := by
  intro x y hy
  rw [n64_iff, show FP.ddiv (FP.i2d x) (FP.i2d y) = FP.Core.ddiv (FP.Core.i2d x) (FP.Core.i2d y) from rfl, FP.Core.val64_ddiv]
  obtain ⟨s, c, q, hx⟩ := FP.Core.i2d_fin x
  obtain ⟨s2, c2, q2, hy2⟩ := FP.Core.i2d_fin y
  rw [hx, hy2]
  have hz : c2 ≠ 0 := by
    intro e
    have h1 := FP.Core.i2d_ne_zero hy
    have h2 := (FP.Core.zero_bits2 (FP.Core.i2d y)).mp (show FP.Core.DZero (FP.Core.i2d y) from ⟨s2, q2, by rw [hy2, e]⟩)
    exact h1 h2
  show (if c2 = 0 then (if c = 0 then FP.Core.Datum.nan else .inf (s != s2)) else FP.Core.roundRatio FP.Core.b64 (s != s2) c c2 (q - q2)) ≠ _
  rw [if_neg hz]
  exact rr_nan _ _ _ _ _
theorem hDZ : ∀ x, vf_n64 x → dcmpFl x x = 0 := by
  intro x hx
  unfold dcmpFl
  rw [show FP.dcmp x x = some .eq from FP.Core.dcmp_self ((n64_iff x).mp hx)]
  rfl
