/-! ===== the text read: signs and numbers ===== -/
theorem sI_sI {β : BS} {k : Nat} {x y : Int32} : sI (sI β k x) k y = sI β k y := by
  refine Prod.ext (funext fun j => ?_) rfl
  show (if j = k then y else if j = k then x else β.1 j) = (if j = k then y else β.1 j)
  split <;> rfl
def PQ (θ μ : BS) (L p : Nat) : Prop := θ.1 0 = nI L ∧ μ.1 2 = nI L ∧ L ≤ 60 ∧ (∀ k, k < L → θ.2 0 k = μ.2 5 k ∧ ∃ c : Nat, 33 ≤ c ∧ c ≤ 126 ∧ μ.2 5 k = nI c) ∧ θ.1 1 = nI p ∧ μ.1 3 = nI p ∧ p ≤ L
theorem PQ_to {θ μ θ' μ' : BS} {L p q : Nat} (h : PQ θ μ L p) (a0 : θ'.1 0 = θ.1 0) (b2 : μ'.1 2 = μ.1 2) (a : θ'.2 0 = θ.2 0) (b : μ'.2 5 = μ.2 5) (a1 : θ'.1 1 = nI q) (b3 : μ'.1 3 = nI q) (hq : q ≤ L) : PQ θ' μ' L q := ⟨a0.trans h.1, b2.trans h.2.1, h.2.2.1, by rw [a, b]; exact h.2.2.2.1, a1, b3, hq⟩
theorem sg_at {θ μ : BS} {L p : Nat} (h : PQ θ μ L p) : ∃ v : Nat, v ≤ 126 ∧ fX7_sign μ = nI v ∧ fX4_digitHere θ = (if 48 ≤ v ∧ v ≤ 57 then nI (v - 48) else -1) ∧ (p < L → θ.2 0 p = nI v ∧ 33 ≤ v) ∧ (L ≤ p → v = 0) := by
  obtain ⟨a0, b2, hL, ht, a1, b3, hp⟩ := h
  have ep : pos θ = p := by unfold pos; rw [a1, nI_clamp (by omega)]
  have et : ta μ = p := by unfold ta; rw [b3, nI_clamp (by omega)]
  unfold fX7_sign fX4_digitHere
  rw [a0, a1, b2, b3, ep, et]
  rcases Nat.lt_or_ge p L with c | c
  · have hn : ¬ nI L ≤ nI p := fun q => by
      have := (nI_leI (a := L) (b := p) (by omega) (by omega)).mp q
      omega
    obtain ⟨e, v, v1, v2, ev⟩ := ht p c
    rw [if_neg hn, if_neg hn, e, ev]
    refine ⟨v, v2, rfl, ?_, fun _ => ⟨rfl, v1⟩, fun q => by omega⟩
    by_cases c1 : v < 48
    · rw [if_pos (show nI v < 48 from (nI_ltI (a := v) (b := 48) (by omega) (by omega)).mpr c1), if_neg (show ¬ (48 ≤ v ∧ v ≤ 57) by omega)]
    · rw [if_neg (show ¬ nI v < 48 from fun q => c1 ((nI_ltI (a := v) (b := 48) (by omega) (by omega)).mp q))]
      by_cases c2 : v ≤ 57
      · rw [if_pos (show nI v ≤ 57 from (nI_leI (a := v) (b := 57) (by omega) (by omega)).mpr c2), if_pos (show 48 ≤ v ∧ v ≤ 57 by omega)]
        exact pk_sub (a := v) (b := 48) (by omega)
      · rw [if_neg (show ¬ nI v ≤ 57 from fun q => c2 ((nI_leI (a := v) (b := 57) (by omega) (by omega)).mp q)), if_neg (show ¬ (48 ≤ v ∧ v ≤ 57) by omega)]
  · have hy : nI L ≤ nI p := (nI_leI (by omega) (by omega)).mpr c
    rw [if_pos hy, if_pos hy]
    exact ⟨0, by omega, rfl, by rw [if_neg (by omega)], fun q => by omega, fun _ => rfl⟩
theorem in_dec {v x y : Nat} (hv : v < 1000) (hx : x < 1000) (hy : y < 1000) : fX7_in (nI v) (nI x) (nI y) = decide (x ≤ v ∧ v ≤ y) := by
  unfold fX7_in
  by_cases c1 : v < x
  · rw [if_pos ((nI_ltI (by omega) (by omega)).mpr c1)]; symm; simp; omega
  · rw [if_neg (fun q => c1 ((nI_ltI (by omega) (by omega)).mp q))]
    by_cases c2 : y < v
    · rw [if_pos ((nI_ltI (by omega) (by omega)).mpr c2)]; symm; simp; omega
    · rw [if_neg (fun q => c2 ((nI_ltI (by omega) (by omega)).mp q))]; symm; simp; omega
/-- reading one sign of a range -/
theorem reads_at {θ μ : BS} {L p : Nat} (h : PQ θ μ L p) (hw : ¬ μ.1 4 = 0) {x y v : Nat} (hv : v ≤ 126) (ev : fX7_sign μ = nI v) (hx : x < 1000) (hy : y < 1000) : fX7_reads μ (nI x) (nI y) = if x ≤ v ∧ v ≤ y then (nI v - 48, sI (sI μ 4 1) 3 (nI (p + 1))) else (nI v - 48, sI (sI μ 4 0) 3 (nI p)) := by
  have e : rW μ (nI x) (nI y) = decide (x ≤ v ∧ v ≤ y) := by
    unfold rW
    rw [i2b_n hw, ev, in_dec (by omega) hx hy, Bool.true_and]
  rw [reads_eq, e, ev, h.2.2.2.2.2.1]
  by_cases c : x ≤ v ∧ v ≤ y
  · rw [if_pos c, decide_eq_true c]
    show (nI v - 48, sI (sI μ 4 1) 3 (nI p + 1)) = _
    rw [nI_1]
  · rw [if_neg c, decide_eq_false c]
    show (nI v - 48, sI (sI μ 4 0) 3 (nI p + 0)) = _
    rw [add_z]
theorem nm1 {d : Nat} (hd : d < 1000) : ¬ nI d = -1 := fun q => by
  have := congrArg Int32.toInt q
  rw [nI_toInt (by omega), show (-1 : Int32).toInt = -1 by decide] at this
  omega
theorem num_at {θ μ : BS} {L p : Nat} (h : PQ θ μ L p) (hw : ¬ μ.1 4 = 0) {a b : Nat} (ha : a ≤ 9) (hb : b ≤ 99) :
    (fX4_readNumber θ (nI a) (nI b) = (-1, θ) ∧ ∃ z, fX7_number μ (nI a) (nI b) = (z, sI (sI μ 4 0) 3 (nI p))) ∨
    ∃ d k : Nat, a ≤ d ∧ d ≤ b ∧ 1 ≤ k ∧ p + k ≤ L ∧ fX4_readNumber θ (nI a) (nI b) = (nI d, sI θ 1 (nI (p + k))) ∧ fX7_number μ (nI a) (nI b) = (nI d, sI (sI μ 4 1) 3 (nI (p + k))) := by
  obtain ⟨v, hv, es, ed, ep, eL⟩ := sg_at h
  have hL := h.2.2.1
  have hpL := h.2.2.2.2.2.2
  -- the reference's bound
  obtain ⟨H, hH, eH⟩ : ∃ H : Nat, H = (if 9 ≤ b then 57 else 48 + b) ∧ (if (9 : Int32) ≤ nI b then (57 : Int32) else 48 + nI b) = nI H := by
    by_cases c : 9 ≤ b
    · exact ⟨57, by rw [if_pos c], by rw [if_pos (show (9 : Int32) ≤ nI b from (nI_leI (a := 9) (b := b) (by omega) (by omega)).mpr c)]; rfl⟩
    · exact ⟨48 + b, by rw [if_neg c], by rw [if_neg (show ¬ (9 : Int32) ≤ nI b from fun q => c ((nI_leI (a := 9) (b := b) (by omega) (by omega)).mp q))]; exact nI_add 48 b⟩
  have hH57 : H ≤ 57 := by rw [hH]; split <;> omega
  rw [number_eq, eH, show (48 : Int32) + nI a = nI (48 + a) from nI_add 48 a, reads_at h hw hv es (by omega) (by omega)]
  unfold fX4_readNumber
  rw [ed]
  by_cases W : 48 + a ≤ v ∧ v ≤ H
  · -- a digit in range
    right
    obtain ⟨d, rfl⟩ : ∃ d, v = 48 + d := ⟨v - 48, by omega⟩
    have hdb : d ≤ b := by
      by_cases c : 9 ≤ b
      · omega
      · rw [if_neg c] at hH; omega
    have hpl : p < L := by
      rcases Nat.lt_or_ge p L with q | q
      · exact q
      · have := eL q; omega
    rw [if_pos W, if_pos (show 48 ≤ 48 + d ∧ 48 + d ≤ 57 by omega), show 48 + d - 48 = d by omega, show nI (48 + d) - 48 = nI d from (pk_sub (a := 48 + d) (b := 48) (by omega)).trans (congrArg nI (by omega))]
    rw [if_neg (nm1 (by omega)), if_neg (show ¬ nI d < nI a from fun q => by
      have := (nI_ltI (a := d) (b := a) (by omega) (by omega)).mp q
      omega), if_pos (show nI d ≤ nI b from (nI_leI (by omega) (by omega)).mpr hdb)]
    have e1 : θ.1 1 + 1 = nI (p + 1) := by rw [h.2.2.2.2.1, nI_1]
    rw [e1]
    have h2 : PQ (sI θ 1 (nI (p + 1))) (sI (sI μ 4 1) 3 (nI (p + 1))) L (p + 1) := PQ_to h rfl rfl rfl rfl rfl rfl (by omega)
    obtain ⟨v2, hv2, es2, ed2, -, -⟩ := sg_at h2
    unfold num2
    show ∃ d_1 k : Nat, _ ∧ _ ∧ _ ∧ _ ∧ _ ∧ (if (1 : Int32) = 0 then _ else _) = _
    rw [if_neg (show ¬ (1 : Int32) = 0 by decide)]
    by_cases c0 : d = 0
    · subst c0
      rw [if_pos (show nI 0 = 0 from rfl), if_pos (show nI 0 ≤ 0 from Int32.le_refl _)]
      exact ⟨0, 1, by omega, by omega, by omega, by omega, rfl, rfl⟩
    · rw [if_neg (show ¬ nI d = 0 from nI_ne0 (by omega) (by omega)), if_neg (show ¬ nI d ≤ 0 from fun q => by
        have := (nI_leI (a := d) (b := 0) (by omega) (by omega)).mp q
        omega)]
      rw [ed2, es2, show fX7_in (nI v2) 48 57 = decide (48 ≤ v2 ∧ v2 ≤ 57) from in_dec (v := v2) (x := 48) (y := 57) (by omega) (by omega) (by omega)]
      by_cases c2 : 48 ≤ v2 ∧ v2 ≤ 57
      · obtain ⟨d2, rfl⟩ : ∃ d2, v2 = 48 + d2 := ⟨v2 - 48, by omega⟩
        rw [if_pos c2, if_pos (decide_eq_true c2), show 48 + d2 - 48 = d2 by omega, if_neg (nm1 (by omega))]
        have m1 : nI d * 10 + nI d2 = nI (10 * d + d2) := by
          rw [show (10 : Int32) = nI 10 from rfl, pk_mul, nI_add, Nat.mul_comm]
        have m2 : 10 * nI d + nI (48 + d2) - 48 = nI (10 * d + d2) := by
          rw [show (10 : Int32) = nI 10 from rfl, pk_mul, nI_add]
          exact (pk_sub (a := 10 * d + (48 + d2)) (b := 48) (by omega)).trans (congrArg nI (by omega))
        rw [m1, m2]
        have hp2 : p + 1 < L := by
          rcases Nat.lt_or_ge (p + 1) L with q | q
          · exact q
          · obtain ⟨w, -, ew, -, -, eL2⟩ := sg_at h2
            rw [es2] at ew
            have := (nI_eq (a := 48 + d2) (b := w) (by omega) (by omega)).mp ew
            have := eL2 q
            omega
        by_cases c3 : 10 * d + d2 ≤ b
        · rw [if_pos (show nI (10 * d + d2) ≤ nI b from (nI_leI (by omega) (by omega)).mpr c3), if_neg (show ¬ nI b < nI (10 * d + d2) from fun q => by
            have := (nI_ltI (a := b) (b := 10 * d + d2) (by omega) (by omega)).mp q
            omega)]
          refine ⟨10 * d + d2, 2, by omega, c3, by omega, by omega, ?_, ?_⟩
          · rw [show (sI θ 1 (nI (p + 1))).1 1 = nI (p + 1) from rfl, nI_1, sI_sI]
          · rw [show (sI (sI μ 4 1) 3 (nI (p + 1))).1 3 = nI (p + 1) from rfl, nI_1, sI_sI]
        · rw [if_neg (show ¬ nI (10 * d + d2) ≤ nI b from fun q => c3 ((nI_leI (a := 10 * d + d2) (b := b) (by omega) (by omega)).mp q)), if_pos (show nI b < nI (10 * d + d2) from (nI_ltI (by omega) (by omega)).mpr (by omega))]
          exact ⟨d, 1, by omega, hdb, by omega, by omega, rfl, rfl⟩
      · rw [if_neg c2, if_neg (show ¬ decide (48 ≤ v2 ∧ v2 ≤ 57) = true from fun q => c2 (of_decide_eq_true q)), if_pos rfl]
        exact ⟨d, 1, by omega, hdb, by omega, by omega, rfl, rfl⟩
  · left
    rw [if_neg W]
    refine ⟨?_, nI v - 48, ?_⟩
    · by_cases c : 48 ≤ v ∧ v ≤ 57
      · obtain ⟨d, rfl⟩ : ∃ d, v = 48 + d := ⟨v - 48, by omega⟩
        rw [if_pos c, show 48 + d - 48 = d by omega, if_neg (nm1 (by omega))]
        by_cases c2 : d < a
        · rw [if_pos (show nI d < nI a from (nI_ltI (by omega) (by omega)).mpr c2)]
        · have hb2 : ¬ d ≤ b := by
            intro q
            by_cases c9 : 9 ≤ b
            · rw [if_pos c9] at hH; omega
            · rw [if_neg c9] at hH; omega
          rw [if_neg (show ¬ nI d < nI a from fun q => c2 ((nI_ltI (a := d) (b := a) (by omega) (by omega)).mp q)), if_neg (show ¬ nI d ≤ nI b from fun q => hb2 ((nI_leI (a := d) (b := b) (by omega) (by omega)).mp q))]
      · rw [if_neg c, if_pos rfl]
    · unfold num2
      exact if_pos rfl
