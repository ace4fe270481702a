theorem bits_z {A : Int32} {n : Nat} (hn : n ≤ 20) (hA : ∀ j, n ≤ j → j < 32 → bt A j = false) : fJ6_bitCount_0f7a4 A ≤ 0 ↔ A = 0 := by
  rw [bc_bits hn hA, bits_eq]
  constructor
  · intro q
    have h0 : pcn (bt A) 20 = 0 := by
      have := (nI_leI (a := pcn (bt A) 20) (b := 0) (by have := pcn_le (bt A) 20; omega) (by omega)).mp q
      omega
    refine bt_z.mpr fun j hj => ?_
    rcases Nat.lt_or_ge j 20 with c | c
    · refine tf_of fun w => ?_
      have key : ∀ m, j < m → m ≤ 20 → 0 < pcn (bt A) m := by
        intro m
        induction m with
        | zero => intro h; omega
        | succ m ih =>
          intro h1 h2
          rw [pcn]
          by_cases e : j = m
          · subst e; rw [if_pos w]; omega
          · have := ih (by omega) (by omega); omega
      have := key 20 c (by omega)
      omega
    · exact hA j (by omega) hj
  · intro q
    rw [q]
    have : pcn (bt 0) 20 = 0 := by decide +kernel
    rw [this]
    exact Int32.le_refl _
