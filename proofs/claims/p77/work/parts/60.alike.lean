theorem in_nat {v : Int32} {a b : Nat} (ha : a < 1000) (hb : b < 1000) (h : fX7_in v (nI a) (nI b) = true) : ∃ p : Nat, a ≤ p ∧ p ≤ b ∧ v = nI p := by
  obtain ⟨h1, h2⟩ := in_int h
  rw [nI_toInt (by omega)] at h1 h2
  have h0 : ¬ v < 0 := fun q => by
    rw [Int32.lt_iff_toInt_lt, show (0 : Int32).toInt = 0 from rfl] at q
    omega
  obtain ⟨p, hp, rfl⟩ := nI_of h0
  rw [nI_toInt hp] at h1 h2
  exact ⟨p, by omega, by omega, rfl⟩
