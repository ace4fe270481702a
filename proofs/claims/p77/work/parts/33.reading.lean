theorem in_int {v a b : Int32} (h : fX7_in v a b = true) : a.toInt ≤ v.toInt ∧ v.toInt ≤ b.toInt := by
  unfold fX7_in at h
  split at h
  · cases h
  · rename_i c1
    split at h
    · cases h
    · rename_i c2
      exact ⟨Int32.le_iff_toInt_le.mp (Int32.not_lt.mp c1), Int32.le_iff_toInt_le.mp (Int32.not_lt.mp c2)⟩
