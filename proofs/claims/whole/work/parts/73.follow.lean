/-! ===== following a text: both sides alike ===== -/
theorem fol_key {θ β0 μ0 : BS} {c : Nat} (hc : c ≤ 20) (h2 : θ.1 2 = nI c) (hv0 : vM μ0) (hrm : rm μ0 = c) (ho : ∀ k, k < c → OA θ μ0 k) : ∀ (d i : Nat) (t ν : BS), i + d = c + 1 → AL t ν → vM ν → eqX 0 μ0 ν → AL (fX4_followOn_R2 θ β0 d i t).2 (fX7_followsAll_R2 μ0 d i ν).2 ∧ (((fX4_followOn_R2 θ β0 d i t).1 = -1 ∧ (fX7_followsAll_R2 μ0 d i ν).1 = nI c) ∨ ∃ j, j < c ∧ (fX4_followOn_R2 θ β0 d i t).1 = nI j ∧ (fX7_followsAll_R2 μ0 d i ν).1 = nI j) ∨ d = 0 := by
  intro d
  induction d with
  | zero => intro i t ν _ _ _ _; exact Or.inr rfl
  | succ d ih =>
    intro i t ν hd hA hv hx
    left
    rw [fX4_followOn_R2, fX7_followsAll_R2]
    have n5 : ν.1 5 = nI c := by
      have e := hv0.2.2.2.2.2.2.2.1
      rw [hrm] at e
      rw [hx.1]
      exact e
    rw [h2, n5]
    by_cases ci : nI c ≤ nI i
    · have hic : c ≤ i := (nI_leI (by omega) (by omega)).mp ci
      have : i = c := by omega
      subst this
      rw [if_pos ci, if_pos ci]
      exact ⟨hA, Or.inl ⟨rfl, rfl⟩⟩
    · have hic : i < c := by
        rcases Nat.lt_or_ge i c with q | q
        · exact q
        · exact absurd ((nI_leI (by omega) (by omega)).mpr q) ci
      rw [if_neg ci, if_neg ci]
      have hoa : OA θ ν i := OA_to (ho i hic) rfl rfl rfl (fun j _ => congrFun (hx.2 6 (by decide)) j)
      obtain ⟨s1, s2, s3⟩ := co_at hA hv hoa
      by_cases cb : (fX2_carryOut t (θ.2 1 i) (θ.2 2 i) (θ.2 3 i)).1 = true
      · have hcan : fX7_can ν (3 * i) = true := s1.symm.trans cb
        rw [if_pos cb, if_pos hcan]
        have hv' : vM (fX7_follows ν (3 * i)) := vM_follows hv (rd97 hv hx (by rw [hrm]; exact hic)) hcan
        have hx' : eqX 0 μ0 (fX7_follows ν (3 * i)) := eqX_trans hx (x0_follows ν (3 * i))
        rcases ih (i + 1) _ _ (by omega) (s2 cb) hv' hx' with g | g
        · exact g
        · omega
      · have hcan : ¬ fX7_can ν (3 * i) = true := fun q => cb (s1.trans q)
        rw [if_neg cb, if_neg hcan]
        refine ⟨?_, Or.inr ⟨i, hic, rfl, rfl⟩⟩
        rw [s3 (tf_of cb)]
        exact hA
theorem fol_all {θ β μ : BS} {c : Nat} (hc : c ≤ 20) (h2 : θ.1 2 = nI c) (hA : AL β μ) (hv : vM μ) (h5 : μ.1 5 = nI c) (ho : ∀ k, k < c → OA θ μ k) : AL (fX4_followOn θ β).2 (fX7_followsAll μ).2 ∧ (((fX4_followOn θ β).1 = -1 ∧ (fX7_followsAll μ).1 = nI c) ∨ ∃ j, j < c ∧ (fX4_followOn θ β).1 = nI j ∧ (fX7_followsAll μ).1 = nI j) := by
  have e1 : oc θ = c := by unfold oc; rw [h2, nI_clamp (by omega)]
  have e2 : rm μ = c := by unfold rm; rw [h5, nI_clamp (by omega)]
  unfold fX4_followOn fX7_followsAll
  rw [e1, e2]
  rcases fol_key hc h2 hv e2 ho (β0 := β) (c + 1) 0 β μ (by omega) hA hv (eqX_refl 0 μ) with g | g
  · exact g
  · omega
theorem rec_k {μ : BS} (hv : vM μ) {k : Nat} (hk : k ≠ 1) : (fX7_records μ).1 k = μ.1 k := by
  rcases Nat.lt_or_ge (sm μ) 6 with c | c
  · rw [records_lt hv c]; exact if_neg hk
  · have e6 : μ.1 1 = 6 := by rw [hv.2.1.2.2.2.2.1, show sm μ = 6 by have := hv.2.1.2.2.2.1; omega]; rfl
    rw [records_6 e6]
    exact if_neg hk
theorem x0_HR {η μ ν : BS} {σ : Nat → BS} (h : HR η σ μ) (e : eqX 0 μ ν) : HR η σ ν := HR_of h (congrFun e.1 1) (e.2 2 (by decide)) (e.2 3 (by decide)) (e.2 4 (by decide))
theorem x0_TR {θ μ ν : BS} (h : TR θ μ) (e : eqX 0 μ ν) : TR θ ν := TR_of h (congrFun e.1 2) (e.2 5 (by decide))
/-- orders read, carried out on trial, the row put back -/
theorem trial {β η θ μ : BS} {σ : Nat → BS} (h : Rl β η θ σ μ) (ok : (fX7_readsOrders (sI μ 0 0)).1 = true) : ∃ (c : Nat) (μ2 B : BS), c ≤ 20 ∧ μ2 = fX7_putAside (fX7_readsOrders (sI μ 0 0)).2 ∧ B = (fX7_followsAll μ2).2 ∧ (fX4_tellsOrders θ).2.1 2 = nI c ∧ (∀ ν : BS, (∀ j, ν.2 6 j = μ2.2 6 j) → ∀ k, k < c → OA (fX4_tellsOrders θ).2 ν k) ∧ AL β μ2 ∧ vM μ2 ∧ μ2.1 5 = nI c ∧ vM B ∧ eqX 0 μ2 B ∧ Rl β η (fX4_tellsOrders θ).2 σ (fX7_takeBack B) ∧ (fX7_takeBack B).1 = μ2.1 ∧ (fX7_takeBack B).2 6 = μ2.2 6 ∧ μ2.1 0 = 0 ∧ (fX4_tellsOrders θ).1 = true := by
  have hv0 : vM (sI μ 0 0) := vM_i0 h.2.1
  obtain ⟨p, c, q1, q2, q3, -⟩ := tells_all (θ := θ) hv0 (TR_of h.2.2.2.2.2 rfl rfl)
  have hR := Rl_read h
  generalize (fX7_readsOrders (sI μ 0 0)).2 = μ1 at *
  generalize (fX4_tellsOrders θ).2 = θ1 at *
  obtain ⟨hA, hv, hη, hθ, hH, hT⟩ := hR
  have e2 : fX7_putAside μ1 = sA μ1 1 (cpW μ1 1 0 (μ1.2 0) 213) := putAside_eq μ1
  have hv2 := vM_putAside hv
  have hx : eqX 0 (fX7_putAside μ1) (fX7_followsAll (fX7_putAside μ1)).2 := x0_followsAll hv2
  have hvB : vM (fX7_followsAll (fX7_putAside μ1)).2 := (fa_key hv2 _ 0 _ (by omega) hv2 (eqX_refl 0 _)).1.1
  have r0 : (fX7_putAside μ1).2 0 = μ1.2 0 := by rw [e2]; rfl
  have r1 : (fX7_putAside μ1).1 = μ1.1 := by rw [e2]; rfl
  have r2 : ∀ j, j ≠ 1 → (fX7_putAside μ1).2 j = μ1.2 j := fun j hj => by rw [e2]; exact if_neg hj
  have r3 : ∀ k, k < 213 → (fX7_putAside μ1).2 1 k = μ1.2 0 k := fun k hk => by rw [e2]; exact cpW_0 hk
  generalize fX7_putAside μ1 = μ2 at *
  obtain ⟨B, hB⟩ : ∃ B, B = (fX7_followsAll μ2).2 := ⟨_, rfl⟩
  rw [← hB] at hx hvB
  have e4 : fX7_takeBack B = sA B 0 (cpW B 0 0 (B.2 1) 213) := takeBack_eq B
  have t1 : (fX7_takeBack B).1 = μ2.1 := by rw [e4]; exact hx.1
  have t2 : ∀ j, j ≠ 0 → (fX7_takeBack B).2 j = μ2.2 j := fun j hj => by rw [e4]; exact (if_neg hj).trans (hx.2 j hj)
  have t0 : ∀ k, k < 213 → (fX7_takeBack B).2 0 k = μ1.2 0 k := fun k hk => by
    rw [e4]
    refine (cpW_0 hk).trans ?_
    rw [hx.2 1 (by decide)]
    exact r3 k hk
  refine ⟨c, μ2, B, q2.2.2.2.1, rfl, hB, q2.2.1, fun ν hν k hk => OA_to (q2.2.2.2.2 k hk) rfl rfl rfl (fun j _ => by rw [hν, r2 6 (by decide)]), AL_row hA r0, hv2, by rw [r1]; exact q2.2.2.1, hvB, hx, ⟨?_, vM_takeBack hvB, hη, hθ, HR_of hH (by rw [t1, r1]) (by rw [t2 2 (by decide), r2 2 (by decide)]) (by rw [t2 3 (by decide), r2 3 (by decide)]) (by rw [t2 4 (by decide), r2 4 (by decide)]), TR_of hT (by rw [t1, r1]) (by rw [t2 5 (by decide), r2 5 (by decide)])⟩, t1, t2 6 (by decide), by rw [r1, q3.1]; rfl, q1.trans ok⟩
  exact (show AL β (fX7_takeBack B) from ALr_congr (show ALr β (μ1.2 0) from hA) t0)
theorem sh_impossibleOrder : sH_impossibleOrder Rl := by
  intro β τ γ η σ θ μ h
  unfold fX6_impossibleOrder fX7_impossibleOrder
  by_cases ok : (fX7_readsOrders (sI μ 0 0)).1 = true
  · obtain ⟨c, μ2, B, hc, e2, eB, h2, ho, hA, hv, h5, hvB, hx, hR, t1, t6, t0, okx⟩ := trial h ok
    obtain ⟨-, hn⟩ := fol_all hc h2 hA hv h5 (ho μ2 (fun _ => rfl))
    rw [if_pos ok, if_pos okx, ← e2, ← eB]
    have b5 : (fX7_takeBack B).1 5 = nI c := by rw [t1]; exact h5
    have hfo : fX4_followOn (fX4_tellsOrders θ).2 β = fX4_followOn (fX4_tellsOrders θ).2 β := rfl
    rcases hn with ⟨n1, n2⟩ | ⟨j, hj, n1, n2⟩
    · rw [if_pos n1, if_pos (by rw [n2, b5])]
      exact ⟨Or.inr (Or.inr ⟨rfl, rfl⟩), Rl_i0 hR 2⟩
    · rw [if_neg (show ¬ (fX4_followOn (fX4_tellsOrders θ).2 β).1 = -1 by rw [n1]; exact nm1 (by omega)), if_neg (show ¬ (fX7_followsAll μ2).1 = (fX7_takeBack B).1 5 from fun q => by
        rw [n2, b5] at q
        have := (nI_eq (a := j) (b := c) (by omega) (by omega)).mp q
        omega)]
      exact ⟨Or.inl ⟨congrArg Sum.inr (n1.trans n2.symm), by show (fX7_takeBack B).1 0 = 0; rw [t1]; exact t0⟩, hR⟩
  · obtain ⟨p, c, q1, -, -, -⟩ := tells_all (θ := θ) (vM_i0 (v := 0) h.2.1) (TR_of h.2.2.2.2.2 rfl rfl)
    rw [if_neg ok, if_neg (fun q => ok (q1.symm.trans q))]
    exact ⟨Or.inr (Or.inl ⟨rfl, rfl⟩), Rl_i0 (Rl_read h) 1⟩
theorem sh_follow : sH_follow Rl := by
  intro β τ γ η σ θ μ h
  unfold fX6_follow fX7_follow
  by_cases ok : (fX7_readsOrders (sI μ 0 0)).1 = true
  · obtain ⟨c, μ2, B, hc, e2, eB, h2, ho, hA, hv, h5, hvB, hx, hR, t1, t6, t0, okx⟩ := trial h ok
    obtain ⟨hAB, hn⟩ := fol_all hc h2 hA hv h5 (ho μ2 (fun _ => rfl))
    rw [if_pos ok, if_pos okx, ← e2, ← eB]
    rw [← eB] at hAB
    have b5 : B.1 5 = nI c := by rw [hx.1]; exact h5
    rcases hn with ⟨n1, n2⟩ | ⟨j, hj, n1, n2⟩
    · rw [if_pos n1, if_pos (by rw [n2, b5])]
      obtain ⟨hA4, hv4, hη, hθ, hH4, hT4⟩ := hR
      have ho5 := records_o hv4
      have hA5 : AL β (fX7_records (fX7_takeBack B)) := AL_row hA4 (ho5.2 0 (by decide))
      have hv5 := vM_records hv4
      have hH5 := records_HR hA4 hv4 hH4
      have f5 : (fX7_records (fX7_takeBack B)).1 5 = nI c := by rw [rec_k hv4 (by decide), t1]; exact h5
      have f0 : (fX7_records (fX7_takeBack B)).1 0 = 0 := by rw [rec_k hv4 (by decide), t1]; exact t0
      have f6 : ∀ j, (fX7_records (fX7_takeBack B)).2 6 j = μ2.2 6 j := fun j => by rw [ho5.2 6 (by decide), t6]
      generalize fX7_records (fX7_takeBack B) = μ5 at *
      obtain ⟨hA6, -⟩ := fol_all hc h2 hA5 hv5 f5 (ho μ5 f6)
      have hx6 := x0_followsAll hv5
      have hv6 : vM (fX7_followsAll μ5).2 := (fa_key hv5 _ 0 _ (by omega) hv5 (eqX_refl 0 _)).1.1
      generalize (fX7_followsAll μ5).2 = C at *
      refine ⟨Or.inl ⟨congrArg Sum.inr ?_, ?_⟩, AL_row hA6 rfl, vM_tx (c := 0) hv6 (Or.inl rfl) rfl (by decide) (fun j _ h2 => if_neg h2), vH_save h.2.2.1, vT_tx (c := 0) hθ rfl (by decide) rfl rfl, HR_of (x0_HR hH5 hx6) rfl rfl rfl rfl, rfl, fun k hk => ?_⟩
      · show (fX4_followOn (fX4_tellsOrders θ).2 β).2.1 2 - β.1 2 = B.2 0 2 - μ2.2 0 2
        rw [hAB.b.1.2.2.1, hA.b.1.2.2.1]
      · show C.1 0 = 0
        rw [hx6.1]
        exact f0
      · have e : tl (sI C 2 0) = 0 := by
          show (0 : Int32).toNatClampNeg = 0
          decide
        have hk : k < tl (sI C 2 0) := hk
        omega
    · rw [if_neg (show ¬ (fX4_followOn (fX4_tellsOrders θ).2 β).1 = -1 by rw [n1]; exact nm1 (by omega)), if_neg (show ¬ (fX7_followsAll μ2).1 = B.1 5 from fun q => by
        rw [n2, b5] at q
        have := (nI_eq (a := j) (b := c) (by omega) (by omega)).mp q
        omega)]
      exact ⟨Or.inr (Or.inr ⟨rfl, rfl⟩), Rl_i0 hR 2⟩
  · obtain ⟨p, c, q1, -, -, -⟩ := tells_all (θ := θ) (vM_i0 (v := 0) h.2.1) (TR_of h.2.2.2.2.2 rfl rfl)
    rw [if_neg ok, if_neg (fun q => ok (q1.symm.trans q))]
    exact ⟨Or.inr (Or.inl ⟨rfl, rfl⟩), Rl_i0 (Rl_read h) 1⟩
