/-! ===== the text read: orders of two numbers ===== -/
theorem sign_at {θ μ : BS} {L p s v : Nat} (h : PQ θ μ L p) (hs : 33 ≤ s) (hs2 : s ≤ 126) (hv : v ≤ 126) (es : fX7_sign μ = nI v) : fX4_readSign θ (nI s) = if v = s then (true, sI θ 1 (nI (p + 1))) else (false, θ) := by
  obtain ⟨w, hw, ew, -, g1, g2⟩ := sg_at h
  have hL := h.2.2.1
  have hp := h.2.2.2.2.2.2
  obtain rfl : v = w := (nI_eq (a := v) (b := w) (by omega) (by omega)).mp (es.symm.trans ew)
  have ep : pos θ = p := by unfold pos; rw [h.2.2.2.2.1, nI_clamp (by omega)]
  unfold fX4_readSign
  rw [h.1, h.2.2.2.2.1, ep]
  rcases Nat.lt_or_ge p L with q | q
  · rw [if_neg (show ¬ nI L ≤ nI p from fun z => by
      have := (nI_leI (a := L) (b := p) (by omega) (by omega)).mp z
      omega), (g1 q).1]
    by_cases c : v = s
    · rw [if_pos c, if_pos (congrArg nI c), nI_1]
    · rw [if_neg c, if_neg (fun z => c ((nI_eq (by omega) (by omega)).mp z))]
  · rw [if_pos (show nI L ≤ nI p from (nI_leI (by omega) (by omega)).mpr q), if_neg (by have := g2 q; omega)]
theorem pair_at {θ μ M : BS} {L p c v s b : Nat} (h : PR θ μ L p c) (m : MF μ M p c v) (hp : p < L) (hc : c ≤ 19) (hv : v ≤ 126) (ev : θ.2 0 p = nI v) (hs : 33 ≤ s) (hs2 : s ≤ 126) (hb : b ≤ 99) (hd : ∀ x y, x ≤ 19 → y ≤ b → OKd v x y) {Y3 Y4 Y5 : Int32 × BS} (eY3 : Y3 = fX7_number M (nI 0) (nI 19)) (eY4 : Y4 = fX7_reads (sE Y3.2 6 (3 * c + 1) Y3.1) (nI s) (nI s)) (eY5 : Y5 = fX7_number Y4.2 (nI 0) (nI b)) :
    RES θ μ L p c (fX4_readPair θ (nI s) (nI b)).1 (fX4_readPair θ (nI s) (nI b)).2 (if Y4.2.1 4 = 0 then sI (sE Y4.2 6 (3 * c + 2) 0) 5 (Y4.2.1 5 + 0) else (if Y5.2.1 4 = 0 then sI (sE Y5.2 6 (3 * c + 2) Y5.1) 5 (Y5.2.1 5 + 0) else sI (sE Y5.2 6 (3 * c + 2) Y5.1) 5 (Y5.2.1 5 + 1))) := by
  have hq := MF_pq h m hp
  obtain ⟨m2, m5, m3, m4, mc, m60, m62, mr⟩ := m
  have hL := h.1.2.2.1
  have ep : pos θ = p := by unfold pos; rw [h.1.2.2.2.2.1, nI_clamp (by omega)]
  have e1 : θ.1 1 + 1 = nI (p + 1) := by rw [h.1.2.2.2.2.1, nI_1]
  unfold fX4_readPair
  rw [e1, ep, ev]
  rcases num_at hq (ne1 m4) (a := 0) (b := 19) (by omega) (by omega) with ⟨g1, z, g2⟩ | ⟨d, k, k1, k2, k3, k4, g1, g2⟩
  · have g1 : fX4_readNumber (sI θ 1 (nI (p + 1))) 0 19 = (-1, sI θ 1 (nI (p + 1))) := g1
    rw [g2] at eY3
    subst eY3
    have e4 : Y4.2 = sI (sI (sE (sI (sI M 4 0) 3 (nI (p + 1))) 6 (3 * c + 1) z) 4 0) 3 (nI (p + 1) + 0) := by
      rw [eY4, reads_eq]
      have : rW (sE (sI (sI M 4 0) 3 (nI (p + 1))) 6 (3 * c + 1) z) (nI s) (nI s) = false := rfl
      rw [this]
      rfl
    rw [g1, if_pos rfl, e4, if_pos (show (sI (sI (sE (sI (sI M 4 0) 3 (nI (p + 1))) 6 (3 * c + 1) z) 4 0) 3 (nI (p + 1) + 0)).1 4 = 0 from rfl)]
    refine RES_no h m2 m5 ?_ rfl ?_ (fun i hi => ?_) (by omega) (by omega)
    · show nI (p + 1) + 0 = _
      rw [add_z]
    · show M.1 5 + 0 = _
      rw [add_z, mc]
    · refine (sE_o (β := sI (sI (sE (sI (sI M 4 0) 3 (nI (p + 1))) 6 (3 * c + 1) z) 4 0) 3 (nI (p + 1) + 0)) (k := 6) (i := 3 * c + 2) (j := i) (v := 0) (by omega)).trans ?_
      exact (sE_o (β := sI (sI M 4 0) 3 (nI (p + 1))) (by omega)).trans (mr i hi)
  · have g1 : fX4_readNumber (sI θ 1 (nI (p + 1))) 0 19 = (nI d, sI (sI θ 1 (nI (p + 1))) 1 (nI (p + 1 + k))) := g1
    rw [g2] at eY3
    subst eY3
    obtain ⟨q, eq⟩ : ∃ q, q = p + 1 + k := ⟨_, rfl⟩
    rw [← eq] at g1 g2 k4 eY4
    obtain ⟨ν, eν⟩ : ∃ ν, ν = sE (sI (sI M 4 1) 3 (nI q)) 6 (3 * c + 1) (nI d) := ⟨_, rfl⟩
    have eY4 : Y4 = fX7_reads ν (nI s) (nI s) := by rw [eY4, eν]
    have n4 : ν.1 4 = 1 := by rw [eν]; rfl
    have n2 : ν.1 2 = μ.1 2 := by rw [eν]; exact m2
    have n5 : ν.2 5 = μ.2 5 := by rw [eν]; exact m5
    have n3 : ν.1 3 = nI q := by rw [eν]; rfl
    have nc : ν.1 5 = nI c := by rw [eν]; exact mc
    have n60 : ν.2 6 (3 * c) = nI v := by rw [eν]; exact (sE_o (β := sI (sI M 4 1) 3 (nI q)) (by omega)).trans m60
    have n61 : ν.2 6 (3 * c + 1) = nI d := by rw [eν]; exact sE_s
    have nr : ∀ i, i < 3 * c → ν.2 6 i = μ.2 6 i := fun i hi => by rw [eν]; exact (sE_o (β := sI (sI M 4 1) 3 (nI q)) (by omega)).trans (mr i hi)
    have hν : PQ (sI θ 1 (nI q)) ν L q := PQ_to h.1 rfl n2 rfl n5 rfl n3 (by omega)
    obtain ⟨v2, hv2, es2, -, -, -⟩ := sg_at hν
    rw [g1, sI_sI, if_neg (nm1 (by omega)), sign_at hν hs hs2 hv2 es2]
    rw [reads_at hν (ne1 n4) hv2 es2 (by omega) (by omega)] at eY4
    by_cases c2 : v2 = s
    · rw [if_pos c2, if_pos rfl]
      rw [if_pos (show s ≤ v2 ∧ v2 ≤ s by omega)] at eY4
      have hpl : q < L := by
        rcases Nat.lt_or_ge q L with z | z
        · exact z
        · obtain ⟨w, -, ew, -, -, w2⟩ := sg_at hν
          have := (nI_eq (a := v2) (b := w) (by omega) (by
            have := w2 z
            omega)).mp (es2.symm.trans ew)
          have := w2 z
          omega
      rw [sI_sI]
      have hρ : PQ (sI θ 1 (nI (q + 1))) Y4.2 L (q + 1) := by
        rw [eY4]
        exact PQ_to h.1 rfl n2 rfl n5 rfl rfl (by omega)
      have y4 : Y4.2.1 4 = 1 := by rw [eY4]; rfl
      rw [if_neg (ne1 y4)]
      rcases num_at hρ (ne1 y4) (a := 0) (b := b) (by omega) hb with ⟨g3, z, g4⟩ | ⟨d2, k5, k6, k7, k8, k9, g3, g4⟩
      · have g3 : fX4_readNumber (sI θ 1 (nI (q + 1))) 0 (nI b) = (-1, sI θ 1 (nI (q + 1))) := g3
        rw [g3, if_pos rfl, eY5, g4, if_pos (show (sI (sI Y4.2 4 0) 3 (nI (q + 1))).1 4 = 0 from rfl), eY4]
        refine RES_no h n2 n5 rfl rfl ?_ (fun i hi => ?_) (by omega) (by omega)
        · show ν.1 5 + 0 = _
          rw [add_z, nc]
        · exact (sE_o (β := sI (sI (sI (sI ν 4 1) 3 (nI (q + 1))) 4 0) 3 (nI (q + 1))) (by omega)).trans (nr i hi)
      · have g3 : fX4_readNumber (sI θ 1 (nI (q + 1))) 0 (nI b) = (nI d2, sI (sI θ 1 (nI (q + 1))) 1 (nI (q + 1 + k5))) := g3
        rw [g3, sI_sI, if_neg (nm1 (by omega)), note_at (nI d) (nI d2) h.2.1 hc hv, if_pos rfl, eY5, g4, if_neg (show ¬ (sI (sI Y4.2 4 1) 3 (nI (q + 1 + k5))).1 4 = 0 from (by decide : ¬ (1 : Int32) = 0)), eY4]
        refine RES_ok (y := d2) (nI d2) h hc (hd d d2 k2 k7) n2 n5 rfl rfl ?_ (fun i hi => ?_) ?_ ?_ (fun _ => ⟨rfl, ?_⟩) (by omega) (by omega)
        · show ν.1 5 + 1 = _
          rw [nc, nI_1]
        · exact (sE_o (β := sI (sI (sI (sI ν 4 1) 3 (nI (q + 1))) 4 1) 3 (nI (q + 1 + k5))) (by omega)).trans (nr i hi)
        · exact (sE_o (β := sI (sI (sI (sI ν 4 1) 3 (nI (q + 1))) 4 1) 3 (nI (q + 1 + k5))) (by omega)).trans n60
        · exact (sE_o (β := sI (sI (sI (sI ν 4 1) 3 (nI (q + 1))) 4 1) 3 (nI (q + 1 + k5))) (by omega)).trans n61
        · exact sE_s (β := sI (sI (sI (sI ν 4 1) 3 (nI (q + 1))) 4 1) 3 (nI (q + 1 + k5))) (k := 6) (i := 3 * c + 2) (v := nI d2)
    · rw [if_neg c2, if_neg (show ¬ (false = true) by decide)]
      rw [if_neg (show ¬ (s ≤ v2 ∧ v2 ≤ s) by omega)] at eY4
      rw [eY4, if_pos (show (sI (sI ν 4 0) 3 (nI q)).1 4 = 0 from rfl)]
      refine RES_no h n2 n5 rfl rfl ?_ (fun i hi => ?_) (by omega) (by omega)
      · show ν.1 5 + 0 = _
        rw [add_z, nc]
      · exact (sE_o (β := sI (sI ν 4 0) 3 (nI q)) (by omega)).trans (nr i hi)
theorem opening_at {θ μ M : BS} {L p c : Nat} (h : PR θ μ L p c) (m : MF μ M p c 111) (hp : p < L) (hc : c ≤ 19) (ev : θ.2 0 p = nI 111) {Y9 Y10 : Int32 × BS} (eY9 : Y9 = fX7_number M (nI 1) (nI 13)) (eY10 : Y10 = fX7_number (sI (sE Y9.2 6 (3 * c + 1) Y9.1) 3 (Y9.2.1 3 + 1)) (nI 0) (nI 3)) :
    RES θ μ L p c (fX4_readOpening θ).1 (fX4_readOpening θ).2 (if Y9.2.1 4 = 0 then sI (sE Y9.2 6 (3 * c + 1) Y9.1) 5 (Y9.2.1 5 + 0) else (if fX7_sign (sE Y9.2 6 (3 * c + 1) Y9.1) = 33 then (if Y10.2.1 4 = 0 then sI (sE Y10.2 6 (3 * c + 2) Y10.1) 5 (Y10.2.1 5 + 0) else sI (sE Y10.2 6 (3 * c + 2) Y10.1) 5 (Y10.2.1 5 + 1)) else sI (sE Y9.2 6 (3 * c + 1) Y9.1) 5 (Y9.2.1 5 + 1))) := by
  have hq := MF_pq h m hp
  obtain ⟨m2, m5, m3, m4, mc, m60, m62, mr⟩ := m
  have hL := h.1.2.2.1
  have ep : pos θ = p := by unfold pos; rw [h.1.2.2.2.2.1, nI_clamp (by omega)]
  have e1 : θ.1 1 + 1 = nI (p + 1) := by rw [h.1.2.2.2.2.1, nI_1]
  have eop : fX4_readOpening θ = (if (fX4_readNumber (sI θ 1 (nI (p + 1))) (nI 1) (nI 13)).1 = -1 then (false, (fX4_readNumber (sI θ 1 (nI (p + 1))) (nI 1) (nI 13)).2) else (if (fX4_readSign (fX4_readNumber (sI θ 1 (nI (p + 1))) (nI 1) (nI 13)).2 (nI 33)).1 = true then (if (fX4_readNumber (fX4_readSign (fX4_readNumber (sI θ 1 (nI (p + 1))) (nI 1) (nI 13)).2 (nI 33)).2 (nI 0) (nI 3)).1 = -1 then (false, (fX4_readNumber (fX4_readSign (fX4_readNumber (sI θ 1 (nI (p + 1))) (nI 1) (nI 13)).2 (nI 33)).2 (nI 0) (nI 3)).2) else (if (fX4_noteOrder (fX4_readNumber (fX4_readSign (fX4_readNumber (sI θ 1 (nI (p + 1))) (nI 1) (nI 13)).2 (nI 33)).2 (nI 0) (nI 3)).2 (nI 111) (fX4_readNumber (sI θ 1 (nI (p + 1))) (nI 1) (nI 13)).1 (fX4_readNumber (fX4_readSign (fX4_readNumber (sI θ 1 (nI (p + 1))) (nI 1) (nI 13)).2 (nI 33)).2 (nI 0) (nI 3)).1).1 = true then (true, (fX4_noteOrder (fX4_readNumber (fX4_readSign (fX4_readNumber (sI θ 1 (nI (p + 1))) (nI 1) (nI 13)).2 (nI 33)).2 (nI 0) (nI 3)).2 (nI 111) (fX4_readNumber (sI θ 1 (nI (p + 1))) (nI 1) (nI 13)).1 (fX4_readNumber (fX4_readSign (fX4_readNumber (sI θ 1 (nI (p + 1))) (nI 1) (nI 13)).2 (nI 33)).2 (nI 0) (nI 3)).1).2) else (false, (fX4_noteOrder (fX4_readNumber (fX4_readSign (fX4_readNumber (sI θ 1 (nI (p + 1))) (nI 1) (nI 13)).2 (nI 33)).2 (nI 0) (nI 3)).2 (nI 111) (fX4_readNumber (sI θ 1 (nI (p + 1))) (nI 1) (nI 13)).1 (fX4_readNumber (fX4_readSign (fX4_readNumber (sI θ 1 (nI (p + 1))) (nI 1) (nI 13)).2 (nI 33)).2 (nI 0) (nI 3)).1).2))) else (if (fX4_noteOrder (fX4_readSign (fX4_readNumber (sI θ 1 (nI (p + 1))) (nI 1) (nI 13)).2 (nI 33)).2 (nI 111) (fX4_readNumber (sI θ 1 (nI (p + 1))) (nI 1) (nI 13)).1 (nI 1)).1 = true then (true, (fX4_noteOrder (fX4_readSign (fX4_readNumber (sI θ 1 (nI (p + 1))) (nI 1) (nI 13)).2 (nI 33)).2 (nI 111) (fX4_readNumber (sI θ 1 (nI (p + 1))) (nI 1) (nI 13)).1 (nI 1)).2) else (false, (fX4_noteOrder (fX4_readSign (fX4_readNumber (sI θ 1 (nI (p + 1))) (nI 1) (nI 13)).2 (nI 33)).2 (nI 111) (fX4_readNumber (sI θ 1 (nI (p + 1))) (nI 1) (nI 13)).1 (nI 1)).2)))) := by
    unfold fX4_readOpening
    rw [e1, ep, ev]
    rfl
  rw [eop]
  rcases num_at hq (ne1 m4) (a := 1) (b := 13) (by omega) (by omega) with ⟨g1, z, g2⟩ | ⟨d, k, k1, k2, k3, k4, g1, g2⟩
  · rw [g2] at eY9
    subst eY9
    rw [g1, if_pos rfl, if_pos (show (sI (sI M 4 0) 3 (nI (p + 1))).1 4 = 0 from rfl)]
    refine RES_no h m2 m5 rfl rfl ?_ (fun i hi => ?_) (by omega) (by omega)
    · show M.1 5 + 0 = _
      rw [add_z, mc]
    · exact (sE_o (β := sI (sI M 4 0) 3 (nI (p + 1))) (by omega)).trans (mr i hi)
  · rw [g2] at eY9
    subst eY9
    obtain ⟨q, eq⟩ : ∃ q, q = p + 1 + k := ⟨_, rfl⟩
    rw [← eq] at g1 g2 k4 eY10
    rw [← eq]
    obtain ⟨ν, eν⟩ : ∃ ν, ν = sE (sI (sI M 4 1) 3 (nI q)) 6 (3 * c + 1) (nI d) := ⟨_, rfl⟩
    have n4 : ν.1 4 = 1 := by rw [eν]; rfl
    have n2 : ν.1 2 = μ.1 2 := by rw [eν]; exact m2
    have n5 : ν.2 5 = μ.2 5 := by rw [eν]; exact m5
    have n3 : ν.1 3 = nI q := by rw [eν]; rfl
    have nc : ν.1 5 = nI c := by rw [eν]; exact mc
    have n60 : ν.2 6 (3 * c) = nI 111 := by rw [eν]; exact (sE_o (β := sI (sI M 4 1) 3 (nI q)) (by omega)).trans m60
    have n61 : ν.2 6 (3 * c + 1) = nI d := by rw [eν]; exact sE_s
    have n62 : ν.2 6 (3 * c + 2) = 1 := by rw [eν]; exact (sE_o (β := sI (sI M 4 1) 3 (nI q)) (by omega)).trans m62
    have nr : ∀ i, i < 3 * c → ν.2 6 i = μ.2 6 i := fun i hi => by rw [eν]; exact (sE_o (β := sI (sI M 4 1) 3 (nI q)) (by omega)).trans (mr i hi)
    have eY10 : Y10 = fX7_number (sI ν 3 (nI q + 1)) (nI 0) (nI 3) := by rw [eY10, eν]; rfl
    have hν : PQ (sI θ 1 (nI q)) ν L q := PQ_to h.1 rfl n2 rfl n5 rfl n3 (by omega)
    obtain ⟨v2, hv2, es2, -, -, -⟩ := sg_at hν
    rw [g1, sI_sI, if_neg (nm1 (by omega)), sign_at hν (s := 33) (by omega) (by omega) hv2 es2, if_neg (show ¬ (sI (sI M 4 1) 3 (nI q)).1 4 = 0 from (by decide : ¬ (1 : Int32) = 0))]
    show RES θ μ L p c _ _ (if fX7_sign (sE (sI (sI M 4 1) 3 (nI q)) 6 (3 * c + 1) (nI d)) = 33 then _ else sI (sE (sI (sI M 4 1) 3 (nI q)) 6 (3 * c + 1) (nI d)) 5 (M.1 5 + 1))
    rw [← eν, es2, mc]
    by_cases c2 : v2 = 33
    · rw [if_pos c2, if_pos rfl, if_pos (show nI v2 = 33 from congrArg nI c2), sI_sI]
      have hpl : q < L := by
        rcases Nat.lt_or_ge q L with z | z
        · exact z
        · obtain ⟨w, -, ew, -, -, w2⟩ := sg_at hν
          have := (nI_eq (a := v2) (b := w) (by omega) (by
            have := w2 z
            omega)).mp (es2.symm.trans ew)
          have := w2 z
          omega
      obtain ⟨ρ, eρ⟩ : ∃ ρ, ρ = sI ν 3 (nI q + 1) := ⟨_, rfl⟩
      rw [← eρ] at eY10
      have hρ : PQ (sI θ 1 (nI (q + 1))) ρ L (q + 1) := by
        rw [eρ]
        exact PQ_to h.1 rfl n2 rfl n5 rfl (nI_1 q) (by omega)
      have y4 : ρ.1 4 = 1 := by rw [eρ]; exact n4
      have r2 : ρ.1 2 = μ.1 2 := by rw [eρ]; exact n2
      have r5 : ρ.2 5 = μ.2 5 := by rw [eρ]; exact n5
      have rc : ρ.1 5 = nI c := by rw [eρ]; exact nc
      have rr : ρ.2 6 = ν.2 6 := by rw [eρ]; rfl
      rcases num_at hρ (ne1 y4) (a := 0) (b := 3) (by omega) (by omega) with ⟨g3, z, g4⟩ | ⟨d2, k5, k6, k7, k8, k9, g3, g4⟩
      · rw [g3, if_pos rfl, eY10, g4, if_pos (show (sI (sI ρ 4 0) 3 (nI (q + 1))).1 4 = 0 from rfl)]
        refine RES_no h r2 r5 rfl rfl ?_ (fun i hi => ?_) (by omega) (by omega)
        · show ρ.1 5 + 0 = _
          rw [add_z, rc]
        · exact (sE_o (β := sI (sI ρ 4 0) 3 (nI (q + 1))) (by omega)).trans ((congrFun rr i).trans (nr i hi))
      · rw [g3, sI_sI, if_neg (nm1 (by omega)), note_at (nI d) (nI d2) h.2.1 hc (by omega), if_pos rfl, eY10, g4, if_neg (show ¬ (sI (sI ρ 4 1) 3 (nI (q + 1 + k5))).1 4 = 0 from (by decide : ¬ (1 : Int32) = 0))]
        refine RES_ok (y := d2) (nI d2) h hc (Or.inr (Or.inr (Or.inl ⟨rfl, ⟨k1, k2⟩, k7⟩))) r2 r5 rfl rfl ?_ (fun i hi => ?_) ?_ ?_ (fun _ => ⟨rfl, ?_⟩) (by omega) (by omega)
        · show ρ.1 5 + 1 = _
          rw [rc, nI_1]
        · exact (sE_o (β := sI (sI ρ 4 1) 3 (nI (q + 1 + k5))) (by omega)).trans ((congrFun rr i).trans (nr i hi))
        · exact (sE_o (β := sI (sI ρ 4 1) 3 (nI (q + 1 + k5))) (by omega)).trans ((congrFun rr _).trans n60)
        · exact (sE_o (β := sI (sI ρ 4 1) 3 (nI (q + 1 + k5))) (by omega)).trans ((congrFun rr _).trans n61)
        · exact sE_s (β := sI (sI ρ 4 1) 3 (nI (q + 1 + k5))) (k := 6) (i := 3 * c + 2) (v := nI d2)
    · rw [if_neg c2, if_neg (show ¬ (false = true) by decide), if_neg (show ¬ nI v2 = 33 from fun z => c2 ((nI_eq (a := v2) (b := 33) (by omega) (by omega)).mp z)), note_at (nI d) (nI 1) h.2.1 hc (by omega), if_pos rfl]
      refine RES_ok (y := 1) (nI 1) h hc (Or.inr (Or.inr (Or.inl ⟨rfl, ⟨k1, k2⟩, by omega⟩))) n2 n5 n3 n4 ?_ nr n60 n61 (fun _ => ⟨rfl, n62⟩) (by omega) (by omega)
      show nI c + 1 = _
      rw [nI_1]
