/-! ===== saved states, slots ===== -/
def ALr (β : BS) (f : Nat → Int32) : Prop := vB β ∧ vS f ∧ RB β f
theorem RB_congr {β : BS} {f g : Nat → Int32} (h : RB β f) (hv : nT f ≤ 20) (e : ∀ k, k < 213 → g k = f k) : RB β g := by
  obtain ⟨⟨a0, a1, a2, a3⟩, b1, b2, b3, b4, ⟨r, b5⟩, b6, b7⟩ := h
  have hn : nT g = nT f := by unfold nT; rw [e 0 (by omega)]
  have hd : dyT g = dyT f := by unfold dyT; rw [e 1 (by omega)]
  have ht : ∀ t w, t < 20 → w < 10 → tk g t w = tk f t w := fun t w g1 g2 => e _ (by omega)
  refine ⟨⟨by rw [e 0 (by omega)]; exact a0, by rw [e 1 (by omega)]; exact a1, by rw [e 2 (by omega)]; exact a2, by rw [e 3 (by omega)]; exact a3⟩, fun o ho => by rw [e (4 + o) (by omega)]; exact b1 o ho, fun m hm => by rw [e (9 + m) (by omega)]; exact b2 m hm, fun t q => ?_, fun t q1 q2 w hw => by rw [ht t w q2 hw]; exact b4 t (by omega) q2 w hw, ⟨r, fun a b q => ?_⟩, fun o ho => ?_, by rw [hd, e 1 (by omega)]; exact b7⟩
  · rw [hn] at q
    obtain ⟨hR, hW⟩ := b3 t q
    have h0 := ht t 0 (by omega) (by decide)
    have h1 := ht t 1 (by omega) (by decide)
    have h2 := ht t 2 (by omega) (by decide)
    have h3 := ht t 3 (by omega) (by decide)
    have h4 := ht t 4 (by omega) (by decide)
    have h5 := ht t 5 (by omega) (by decide)
    have h6 := ht t 6 (by omega) (by decide)
    have h7 := ht t 7 (by omega) (by decide)
    have h8 := ht t 8 (by omega) (by decide)
    have h9 := ht t 9 (by omega) (by decide)
    unfold RT WT
    rw [h0, h1, h2, h3, h4, h5, h6, h7, h8, h9, hn, hd]
    exact ⟨hR, hW⟩
  · obtain ⟨q1, q2, q3⟩ := q
    rw [hn] at q1
    rw [ht a 9 (by omega) (by decide)] at q3
    exact b5 a b ⟨q1, q2, q3⟩
  · rw [b6 o ho, load_SU, load_SU, hn]
    refine (SU_same _ fun k hk => ?_).symm
    unfold lc
    rw [ht k 3 (by omega) (by decide), ht k 2 (by omega) (by decide), ht k 0 (by omega) (by decide)]
theorem ALr_congr {β : BS} {f g : Nat → Int32} (h : ALr β f) (e : ∀ k, k < 213 → g k = f k) : ALr β g := ⟨h.1, vS_congr h.2.1 e, RB_congr h.2.2 h.2.1.1 e⟩
/-- the saved states and the slots alike -/
def HR (η : BS) (σ : Nat → BS) (μ : BS) : Prop := (∃ o c : Nat, o < 6 ∧ c ≤ 6 ∧ η.1 0 = nI o ∧ η.1 1 = nI c ∧ μ.1 1 = nI c ∧ ∀ j, j < c → ALr (σ (2 + (o + j) % 6)) (fun k => μ.2 2 (213 * j + k))) ∧ ∀ s, s < 2 → i2b (η.2 0 s) = i2b (μ.2 4 s) ∧ (i2b (μ.2 4 s) = true → ALr (σ (8 + s)) (fun k => μ.2 3 (213 * s + k)))
theorem HR_of {η : BS} {σ : Nat → BS} {μ ν : BS} (h : HR η σ μ) (h1 : ν.1 1 = μ.1 1) (h2 : ν.2 2 = μ.2 2) (h3 : ν.2 3 = μ.2 3) (h4 : ν.2 4 = μ.2 4) : HR η σ ν := by
  unfold HR at *
  rw [h1, h2, h3, h4]
  exact h
theorem irem_nat {a : Nat} (ha : a < 100) : iremF (nI a) 6 = nI (a % 6) := pk_rem (d := 6) (by omega) (by omega) (by omega)
theorem records_HR {β μ η : BS} {σ : Nat → BS} (h : AL β μ) (hv : vM μ) (hr : HR η σ μ) : HR (fX3_save η σ β).1 (fX3_save η σ β).2 (fX7_records μ) := by
  obtain ⟨⟨o, c, ho, hc, e0, e1, e2, hs⟩, hk⟩ := hr
  have hsm : sm μ = c := by unfold sm; rw [e2, nI_clamp (by omega)]
  by_cases c6 : c = 6
  · subst c6
    have e6 : μ.1 1 = 6 := by rw [e2]; rfl
    have hsave : fX3_save η σ β = (sI (sI (sI η 0 (nI ((o + 1) % 6))) 1 (η.1 1 - 1)) 1 (η.1 1 - 1 + 1), upB σ (2 + ((o + 1) % 6 + 5) % 6) β) := by
      unfold fX3_save
      rw [if_pos (by rw [e1]; rfl)]
      have g1 : iremF (η.1 0 + 1) 6 = nI ((o + 1) % 6) := by rw [e0, nI_1, irem_nat (by omega)]
      rw [g1]
      have g2 : (sI (sI η 0 (nI ((o + 1) % 6))) 1 (((sI η 0 (nI ((o + 1) % 6))).1 1) - 1)).1 0 = nI ((o + 1) % 6) := rfl
      have g3 : (sI (sI η 0 (nI ((o + 1) % 6))) 1 (((sI η 0 (nI ((o + 1) % 6))).1 1) - 1)).1 1 = η.1 1 - 1 := rfl
      have g4 : iremF (nI ((o + 1) % 6) + (η.1 1 - 1)) 6 = nI (((o + 1) % 6 + 5) % 6) := by rw [e1, show (nI 6 - 1 : Int32) = nI 5 from by decide, nI_add, irem_nat (by omega)]
      rw [g2, g3, g4, nI_clamp (by omega)]
      rfl
    rw [hsave, records_6 e6]
    refine ⟨⟨(o + 1) % 6, 6, by omega, by omega, rfl, ?_, rfl, fun j hj => ?_⟩, fun s hs2 => ?_⟩
    · show η.1 1 - 1 + 1 = nI 6
      rw [e1]; decide
    · show ALr (upB σ (2 + ((o + 1) % 6 + 5) % 6) β (2 + ((o + 1) % 6 + j) % 6)) _
      unfold upB
      by_cases ej : j = 5
      · subst ej
        rw [if_pos rfl]
        refine ALr_congr (show ALr β (μ.2 0) from h) fun k hk9 => ?_
        exact cpW_in rfl hk9
      · rw [if_neg (by omega)]
        have hs9 := hs (j + 1) (by omega)
        rw [show ((o + 1) % 6 + j) % 6 = (o + (j + 1)) % 6 by omega]
        refine ALr_congr hs9 fun k hk9 => ?_
        refine (cpW_out (by omega)).trans ?_
        show cpW μ 2 0 (fun i => μ.2 2 (i + 213)) 1065 (213 * j + k) = _
        refine (cpW_in (p := 0) (i := 1065) (j := 213 * j + k) (by omega) (by omega)).trans ?_
        exact congrArg (μ.2 2) (by omega)
    · refine ⟨(hk s hs2).1, fun q => ?_⟩
      show ALr (upB σ (2 + ((o + 1) % 6 + 5) % 6) β (8 + s)) _
      unfold upB
      rw [if_neg (by omega)]
      exact (hk s hs2).2 q
  · have hlt : c < 6 := by omega
    have hne : ¬ η.1 1 = 6 := fun q => by
      rw [e1] at q
      exact c6 ((nI_eq (a := c) (b := 6) (by omega) (by omega)).mp q)
    have hsave : fX3_save η σ β = (sI η 1 (nI (c + 1)), upB σ (2 + (o + c) % 6) β) := by
      unfold fX3_save
      rw [if_neg hne, e0, e1, nI_add, irem_nat (by omega), nI_clamp (by omega), nI_1]
    rw [hsave, records_lt hv (by omega), hsm]
    refine ⟨⟨o, c + 1, ho, by omega, e0, rfl, rfl, fun j hj => ?_⟩, fun s hs2 => ?_⟩
    · show ALr (upB σ (2 + (o + c) % 6) β (2 + (o + j) % 6)) _
      unfold upB
      by_cases ej : j = c
      · subst ej
        rw [if_pos rfl]
        exact ALr_congr (show ALr β (μ.2 0) from h) fun k hk9 => cpW_in rfl hk9
      · rw [if_neg (by omega)]
        refine ALr_congr (hs j (by omega)) fun k hk9 => ?_
        exact cpW_out (by omega)
    · refine ⟨(hk s hs2).1, fun q => ?_⟩
      show ALr (upB σ (2 + (o + c) % 6) β (8 + s)) _
      unfold upB
      rw [if_neg (by omega)]
      exact (hk s hs2).2 q
/-- what records does besides: the rows that tell the text and the slots stay -/
theorem records_o {μ : BS} (hv : vM μ) : (fX7_records μ).1 2 = μ.1 2 ∧ (∀ j, j ≠ 2 → (fX7_records μ).2 j = μ.2 j) := by
  rcases Nat.lt_or_ge (sm μ) 6 with c | c
  · rw [records_lt hv c]; exact ⟨rfl, fun j hj => if_neg hj⟩
  · have e6 : μ.1 1 = 6 := by rw [hv.2.1.2.2.2.2.1, show sm μ = 6 by have := hv.2.1.2.2.2.1; omega]; rfl
    rw [records_6 e6]
    exact ⟨rfl, fun j hj => (if_neg hj).trans (if_neg hj)⟩
