/-! ===== a new ticket, capacities, days ===== -/
theorem open_RB {β μ : BS} (h : AL β μ) (hr : cM μ < 20) {p z : Int32} (hp : ∃ q : Nat, 1 ≤ q ∧ q ≤ 13 ∧ p = nI q) : RB (fX0_addTicket β p z).2 ((fX7_opens μ p z).2.2 0) := by
  obtain ⟨n, hn⟩ : ∃ n, cM μ = n := ⟨_, rfl⟩
  have hnT : nT (μ.2 0) = n := hn
  have hcn : cnt β = n := h.n.trans hn
  obtain ⟨⟨a0, a1, a2, a3⟩, b1, b2, b3, b4, b5, b6, b7⟩ := h.b
  rw [hnT] at b3 b4
  -- the reference's row
  obtain ⟨f, hf⟩ : ∃ f, f = (fX7_opens μ p z).2.2 0 := ⟨_, rfl⟩
  have hf0 : f 0 = nI (n + 1) := by
    rw [hf]
    unfold fX7_opens
    rw [lay_low (by decide), lay_low (by decide), lay_low (by decide), sE0_s, h.f0, hn, nI_1]
  have hfl : ∀ k, 0 < k → k < 13 → f k = μ.2 0 k := fun k g1 g2 => by
    rw [hf]
    unfold fX7_opens
    rw [lay_low g2, lay_low g2, lay_low g2]
    exact pk_un (by omega)
  have hft : ∀ t w, w < 10 → tk f t w = if t = n ∧ w = 0 then p else if t = n ∧ w = 1 then z else if t = n ∧ w = 5 then μ.2 0 1 else tk (μ.2 0) t w := fun t w hw => by
    rw [hf]
    unfold fX7_opens
    rw [lay_tk (by decide) hw, lay_tk (by decide) hw, lay_tk (by decide) hw, hn]
    have e1 : (fX7_lay (fX7_lay (sE μ 0 0 ((μ.2 0 0) + 1)) n 0 p) n 1 z).2 0 1 = μ.2 0 1 := by
      rw [lay_low (by decide), lay_low (by decide)]
      exact sE0_low (by decide)
    have e2 : tk ((sE μ 0 0 ((μ.2 0 0) + 1)).2 0) t w = tk (μ.2 0) t w := tk_low (by decide)
    rw [e1, e2]
    by_cases c : t = n
    · subst c
      by_cases c0 : w = 0
      · subst c0; simp
      · by_cases c1 : w = 1
        · subst c1; simp
        · by_cases c5 : w = 5
          · subst c5; simp
          · simp [c0, c1, c5]
    · simp [c]
  have hold : ∀ t w, w < 10 → t ≠ n → tk f t w = tk (μ.2 0) t w := fun t w hw ht => by rw [hft t w hw, if_neg (fun q => ht q.1), if_neg (fun q => ht q.1), if_neg (fun q => ht q.1)]
  have hnew : ∀ w, w < 10 → w ≠ 0 → w ≠ 1 → w ≠ 5 → tk f n w = 0 := fun w hw h0 h1 h5 => by
    rw [hft n w hw, if_neg (fun q => h0 q.2), if_neg (fun q => h1 q.2), if_neg (fun q => h5 q.2)]
    exact b4 n (Nat.le_refl _) (by omega) w hw
  have hn1 : nT f = n + 1 := by unfold nT; rw [hf0, nI_clamp (by omega)]
  have hdy : dyT f = dyT (μ.2 0) := by unfold dyT; rw [hfl 1 (by decide) (by decide)]
  rw [← hf]
  -- the board
  have hB : ∀ r t, t ≠ n → (fX0_addTicket β p z).2.2 r t = β.2 r t := fun r t ht => by
    unfold fX0_addTicket
    rw [hcn]
    show (sE (sE (sE (sE (sE (sE (sE (sE (sE (sE β 0 n 0) 1 n p) 2 n z) 3 n (-1)) 4 n (-1)) 5 n _) 6 n (-1)) 7 n 0) 8 n 0) 9 n 0).2 r t = _
    rw [sE_any ht, sE_any ht, sE_any ht, sE_any ht, sE_any ht, sE_any ht, sE_any ht, sE_any ht, sE_any ht, sE_any ht]
  have hBr : ∀ r, 9 < r → (fX0_addTicket β p z).2.2 r = β.2 r := fun r hr => by
    unfold fX0_addTicket
    show (sE (sE (sE (sE (sE (sE (sE (sE (sE (sE β 0 _ 0) 1 _ p) 2 _ z) 3 _ (-1)) 4 _ (-1)) 5 _ _) 6 _ (-1)) 7 _ 0) 8 _ 0) 9 _ 0).2 r = _
    rw [sE_r (by omega), sE_r (by omega), sE_r (by omega), sE_r (by omega), sE_r (by omega), sE_r (by omega), sE_r (by omega), sE_r (by omega), sE_r (by omega), sE_r (by omega)]
  have hN : (fX0_addTicket β p z).2.2 0 n = 0 ∧ (fX0_addTicket β p z).2.2 1 n = p ∧ (fX0_addTicket β p z).2.2 2 n = z ∧ (fX0_addTicket β p z).2.2 3 n = -1 ∧ (fX0_addTicket β p z).2.2 4 n = -1 ∧ (fX0_addTicket β p z).2.2 5 n = β.1 1 ∧ (fX0_addTicket β p z).2.2 7 n = 0 ∧ (fX0_addTicket β p z).2.2 8 n = 0 ∧ (fX0_addTicket β p z).2.2 9 n = 0 := by
    unfold fX0_addTicket
    rw [hcn]
    refine ⟨?_, ?_, ?_, ?_, ?_, ?_, ?_, ?_, ?_⟩
    · show upd _ n 0 n = 0; exact pk_us
    · show upd _ n p n = p; exact pk_us
    · show upd _ n z n = z; exact pk_us
    · show upd _ n (-1) n = -1; exact pk_us
    · show upd _ n (-1) n = -1; exact pk_us
    · show upd _ n (β.1 1) n = β.1 1; exact pk_us
    · show upd _ n 0 n = 0; exact pk_us
    · show upd _ n 0 n = 0; exact pk_us
    · show upd _ n 0 n = 0; exact pk_us
  obtain ⟨n0, n1, n2, n3, n4, n5, n7, n8, n9⟩ := hN
  refine ⟨⟨?_, ?_, ?_, ?_⟩, fun o ho => ?_, fun m hm => ?_, fun t ht => ?_, fun t g1 g2 w hw => ?_, ?_, fun o ho => ?_, ?_⟩
  · show β.1 0 + 1 = f 0
    rw [hf0, a0, h.f0, hn, nI_1]
  · show β.1 1 = f 1
    rw [hfl 1 (by decide) (by decide)]; exact a1
  · show β.1 2 = f 2
    rw [hfl 2 (by decide) (by decide)]; exact a2
  · show β.1 3 = f 3
    rw [hfl 3 (by decide) (by decide)]; exact a3
  · rw [hBr 10 (by decide), hfl (4 + o) (by omega) (by omega)]; exact b1 o ho
  · rw [hBr 12 (by decide), hfl (9 + m) (by omega) (by omega)]; exact b2 m hm
  · rw [hn1] at ht
    by_cases c : t = n
    · subst c
      refine ⟨⟨?_, ?_, ?_, ?_, ?_, ?_, ?_, ?_, ?_, ?_⟩, ?_, ?_, ?_, ?_⟩
      · rw [n0, hnew 2 (by decide) (by decide) (by decide) (by decide)]
      · rw [n1, hft t 0 (by decide), if_pos ⟨rfl, rfl⟩]
      · rw [n2, hft t 1 (by decide), if_neg (fun q => absurd q.2 (by decide)), if_pos ⟨rfl, rfl⟩]
      · rw [n3, hnew 3 (by decide) (by decide) (by decide) (by decide)]; decide
      · rw [n4, hnew 4 (by decide) (by decide) (by decide) (by decide)]; decide
      · rw [n5, hft t 5 (by decide), if_neg (fun q => absurd q.2 (by decide)), if_neg (fun q => absurd q.2 (by decide)), if_pos ⟨rfl, rfl⟩]; exact a1
      · rw [hnew 2 (by decide) (by decide) (by decide) (by decide)]; exact fun q => absurd q (by decide)
      · rw [n7, hnew 7 (by decide) (by decide) (by decide) (by decide)]
      · rw [n8, hnew 8 (by decide) (by decide) (by decide) (by decide)]
      · rw [n9, hnew 9 (by decide) (by decide) (by decide) (by decide)]
      · rw [hnew 2 (by decide) (by decide) (by decide) (by decide)]; exact ⟨0, by decide, rfl⟩
      · rw [hft t 0 (by decide), if_pos ⟨rfl, rfl⟩]; exact hp
      · rw [hnew 7 (by decide) (by decide) (by decide) (by decide)]; exact ⟨0, Nat.zero_le _, rfl⟩
      · rw [hnew 9 (by decide) (by decide) (by decide) (by decide)]; exact fun j _ _ => bt_0 j
    · obtain ⟨⟨r0, r1, r2, r3, r4, r5, r6, r7, r8, r9⟩, w1, w2, w3, w4⟩ := b3 t (by omega)
      refine ⟨⟨?_, ?_, ?_, ?_, ?_, ?_, ?_, ?_, ?_, ?_⟩, ?_, ?_, ?_, ?_⟩
      · rw [hB 0 t c, hold t 2 (by decide) c]; exact r0
      · rw [hB 1 t c, hold t 0 (by decide) c]; exact r1
      · rw [hB 2 t c, hold t 1 (by decide) c]; exact r2
      · rw [hB 3 t c, hold t 3 (by decide) c]; exact r3
      · rw [hB 4 t c, hold t 4 (by decide) c]; exact r4
      · rw [hB 5 t c, hold t 5 (by decide) c]; exact r5
      · rw [hB 6 t c, hold t 6 (by decide) c, hold t 2 (by decide) c]; exact r6
      · rw [hB 7 t c, hold t 7 (by decide) c]; exact r7
      · rw [hB 8 t c, hold t 8 (by decide) c]; exact r8
      · rw [hB 9 t c, hold t 9 (by decide) c]; exact r9
      · rw [hold t 2 (by decide) c]; exact w1
      · rw [hold t 0 (by decide) c]; exact w2
      · rw [hold t 7 (by decide) c, hdy]; exact w3
      · rw [hold t 9 (by decide) c, hn1]
        rw [hnT] at w4
        exact fun j g1 g2 => w4 j (by omega) g2
  · rw [hn1] at g1
    rw [hold t w hw (by omega)]
    exact b4 t (by omega) g2 w hw
  · obtain ⟨r, hr⟩ := b5
    refine ⟨r, fun a b q => ?_⟩
    obtain ⟨q1, q2, q3⟩ := q
    rw [hn1] at q1
    by_cases c : a = n
    · subst c
      rw [hnew 9 (by decide) (by decide) (by decide) (by decide), bt_0] at q3
      cases q3
    · rw [hold a 9 (by decide) c] at q3
      exact hr a b ⟨by rw [hnT]; omega, q2, q3⟩
  · rw [hBr 11 (by decide), b6 o ho, load_SU, load_SU, hn1, hnT]
    show SU (lc (μ.2 0) o) n = SU (lc f o) n + lc f o n
    have e1 : lc f o n = 0 := by
      unfold lc
      rw [hnew 3 (by decide) (by decide) (by decide) (by decide), if_neg]
      rw [nI_1]
      exact fun q => nI_ne0 (n := o + 1) (by omega) (by omega) q.symm
    rw [e1, Int32.add_zero]
    refine (SU_same n fun i hi => ?_).symm
    unfold lc
    rw [hold i 3 (by decide) (by omega), hold i 2 (by decide) (by omega), hold i 0 (by decide) (by omega)]
  · rw [hfl 1 (by decide) (by decide), hdy]; exact b7
/-- one of the low numbers changes: a capacity or a milestone's day -/
theorem low_RB {β β' : BS} {f : Nat → Int32} (h : RB β f) {i : Nat} {v : Int32} (hi : 4 ≤ i) (hi2 : i < 13) (h1 : β'.1 = β.1) (hr : ∀ r, r ≠ 10 → r ≠ 12 → β'.2 r = β.2 r) (h10 : ∀ o, o < 5 → β'.2 10 o = upd f i v (4 + o)) (h12 : ∀ m, m < 4 → β'.2 12 m = upd f i v (9 + m)) : RB β' (upd f i v) := by
  obtain ⟨b0, b1, b2, b3, b4, b5, b6, b7⟩ := h
  have e0 : upd f i v 0 = f 0 := pk_un (by omega)
  have e1 : upd f i v 1 = f 1 := pk_un (by omega)
  have hn : nT (upd f i v) = nT f := by unfold nT; rw [e0]
  have hd : dyT (upd f i v) = dyT f := by unfold dyT; rw [e1]
  have ht : ∀ t w, tk (upd f i v) t w = tk f t w := fun t w => tk_low hi2
  refine ⟨?_, h10, h12, fun t q => ?_, fun t q1 q2 w hw => ?_, ?_, fun o ho => ?_, by rw [e1, hd]; exact b7⟩
  · rw [h1, e0, e1, show upd f i v 2 = f 2 from pk_un (by omega), show upd f i v 3 = f 3 from pk_un (by omega)]; exact b0
  · rw [hn] at q
    obtain ⟨⟨r0, r1, r2, r3, r4, r5, r6, r7, r8, r9⟩, w1, w2, w3, w4⟩ := b3 t q
    unfold RT WT
    simp only [ht, hn, hd]
    refine ⟨⟨?_, ?_, ?_, ?_, ?_, ?_, ?_, ?_, ?_, ?_⟩, w1, w2, w3, w4⟩
    · rw [hr 0 (by decide) (by decide)]; exact r0
    · rw [hr 1 (by decide) (by decide)]; exact r1
    · rw [hr 2 (by decide) (by decide)]; exact r2
    · rw [hr 3 (by decide) (by decide)]; exact r3
    · rw [hr 4 (by decide) (by decide)]; exact r4
    · rw [hr 5 (by decide) (by decide)]; exact r5
    · rw [hr 6 (by decide) (by decide)]; exact r6
    · rw [hr 7 (by decide) (by decide)]; exact r7
    · rw [hr 8 (by decide) (by decide)]; exact r8
    · rw [hr 9 (by decide) (by decide)]; exact r9
  · rw [hn] at q1
    rw [ht]; exact b4 t q1 q2 w hw
  · refine Acy_same e0 (fun t _ => ht t 9) b5
  · rw [hr 11 (by decide) (by decide), b6 o ho, load_SU, load_SU, hn]
    refine (SU_same _ fun k _ => ?_).symm
    unfold lc
    simp only [ht]
theorem date_RB {β μ : BS} (h : AL β μ) {m : Nat} (hm : m < 4) (v : Int32) : RB (sE β 12 m v) ((sE μ 0 (9 + m) v).2 0) := by
  refine low_RB h.b (by omega) (by omega) rfl (fun r h1 h2 => sE_r h2) (fun k hk => ?_) (fun k hk => ?_)
  · rw [sE_r (by decide), show upd (μ.2 0) (9 + m) v (4 + k) = μ.2 0 (4 + k) from pk_un (by omega)]; exact h.b.2.1 k hk
  · show upd (β.2 12) m v k = upd (μ.2 0) (9 + m) v (9 + k)
    unfold upd
    by_cases e : k = m
    · subst e; rw [if_pos rfl, if_pos rfl]
    · rw [if_neg e, if_neg (by omega)]; exact h.b.2.2.1 k hk
-- days
theorem pass_spec (β : BS) (d : Int32) (n : Nat) : (lpF (fX0_pass_L12 β d) (sI β 1 (β.1 1 + d)) n).1 = (sI β 1 (β.1 1 + d)).1 ∧ (∀ r, r ≠ 7 → (lpF (fX0_pass_L12 β d) (sI β 1 (β.1 1 + d)) n).2 r = β.2 r) ∧ ∀ t, (lpF (fX0_pass_L12 β d) (sI β 1 (β.1 1 + d)) n).2 7 t = if t < n ∧ β.2 0 t = 1 then β.2 7 t + d else β.2 7 t := by
  induction n with
  | zero => exact ⟨rfl, fun r _ => rfl, fun t => (if_neg (fun q => by omega)).symm⟩
  | succ n ih =>
    obtain ⟨i1, i2, i3⟩ := ih
    rw [lpF_1]
    generalize lpF (fX0_pass_L12 β d) (sI β 1 (β.1 1 + d)) n = y at i1 i2 i3
    unfold fX0_pass_L12
    have e0 : y.2 0 n = β.2 0 n := by rw [i2 0 (by decide)]
    have e7 : y.2 7 n = β.2 7 n := by rw [i3 n, if_neg (fun q => by omega)]
    rw [e0, e7]
    by_cases c : β.2 0 n = 1
    · rw [if_pos c]
      refine ⟨i1, fun r hr => (sE_r hr).trans (i2 r hr), fun t => ?_⟩
      by_cases e : t = n
      · subst e; rw [sE_s, if_pos ⟨by omega, c⟩]
      · rw [sE_o e, i3 t]
        by_cases q : t < n ∧ β.2 0 t = 1
        · rw [if_pos q, if_pos ⟨by omega, q.2⟩]
        · rw [if_neg q, if_neg (fun z => q ⟨by omega, z.2⟩)]
    · rw [if_neg c]
      refine ⟨i1, i2, fun t => ?_⟩
      rw [i3 t]
      by_cases e : t = n
      · subst e; rw [if_neg (fun q => by omega), if_neg (fun q => c q.2)]
      · by_cases q : t < n ∧ β.2 0 t = 1
        · rw [if_pos q, if_pos ⟨by omega, q.2⟩]
        · rw [if_neg q, if_neg (fun z => q ⟨by omega, z.2⟩)]
theorem ends_spec (μ : BS) (d : Int32) (n : Nat) : (∀ k, k < 13 → k ≠ 1 → (lpF (fX7_ends_L12 μ d) (sE μ 0 1 (μ.2 0 1 + d)) n).2 0 k = μ.2 0 k) ∧ (lpF (fX7_ends_L12 μ d) (sE μ 0 1 (μ.2 0 1 + d)) n).2 0 1 = μ.2 0 1 + d ∧ ∀ t w, w < 10 → tk ((lpF (fX7_ends_L12 μ d) (sE μ 0 1 (μ.2 0 1 + d)) n).2 0) t w = if w = 7 ∧ t < n ∧ tk (μ.2 0) t 2 = 1 then tk (μ.2 0) t 7 + d else tk (μ.2 0) t w := by
  induction n with
  | zero => exact ⟨fun k _ hk => sE0_low hk, sE0_s, fun t w hw => by
      rw [if_neg (fun q => absurd q.2.1 (by omega)), lpF_0]
      exact tk_low (by decide)⟩
  | succ n ih =>
    obtain ⟨i1, i2, i3⟩ := ih
    rw [lpF_1]
    generalize lpF (fX7_ends_L12 μ d) (sE μ 0 1 (μ.2 0 1 + d)) n = y at i1 i2 i3
    unfold fX7_ends_L12
    have e2 : fX7_of y n 2 = tk (μ.2 0) n 2 := (i3 n 2 (by decide)).trans (if_neg (fun q => absurd q.1 (by decide)))
    have e7 : fX7_of y n 7 = tk (μ.2 0) n 7 := (i3 n 7 (by decide)).trans (if_neg (fun q => by omega))
    rw [e2, e7]
    by_cases c : tk (μ.2 0) n 2 = 1
    · rw [if_pos c]
      refine ⟨fun k hk hk1 => (lay_low hk).trans (i1 k hk hk1), (lay_low (by decide)).trans i2, fun t w hw => ?_⟩
      rw [lay_tk (by decide) hw, i3 t w hw]
      by_cases e : t = n ∧ w = 7
      · obtain ⟨rfl, rfl⟩ := e
        rw [if_pos ⟨rfl, rfl⟩, if_pos ⟨rfl, by omega, c⟩]
      · rw [if_neg e]
        by_cases q : w = 7 ∧ t < n ∧ tk (μ.2 0) t 2 = 1
        · rw [if_pos q, if_pos ⟨q.1, by omega, q.2.2⟩]
        · rw [if_neg q, if_neg (fun z => q ⟨z.1, by
            have := z.2.1
            rcases Nat.lt_or_ge t n with g | g
            · exact g
            · exact absurd ⟨by omega, z.1⟩ e, z.2.2⟩)]
    · rw [if_neg c, Int32.add_zero]
      refine ⟨fun k hk hk1 => (lay_low hk).trans (i1 k hk hk1), (lay_low (by decide)).trans i2, fun t w hw => ?_⟩
      rw [lay_tk (by decide) hw, i3 t w hw]
      by_cases e : t = n ∧ w = 7
      · obtain ⟨rfl, rfl⟩ := e
        rw [if_pos ⟨rfl, rfl⟩, if_neg (fun q => c q.2.2)]
      · rw [if_neg e]
        by_cases q : w = 7 ∧ t < n ∧ tk (μ.2 0) t 2 = 1
        · rw [if_pos q, if_pos ⟨q.1, by omega, q.2.2⟩]
        · rw [if_neg q, if_neg (fun z => q ⟨z.1, by
            have := z.2.1
            rcases Nat.lt_or_ge t n with g | g
            · exact g
            · exact absurd ⟨by omega, z.1⟩ e, z.2.2⟩)]
theorem days_RB {β μ : BS} (h : AL β μ) {d : Nat} (hd : dyT (μ.2 0) + d ≤ 999) : RB (fX0_pass β (nI d)).2 ((fX7_ends μ (nI d)).2.2 0) := by
  obtain ⟨p1, p2, p3⟩ := pass_spec β (nI d) (cM μ)
  obtain ⟨q1, q2, q3⟩ := ends_spec μ (nI d) (cM μ)
  unfold fX0_pass fX7_ends
  rw [h.n]
  show RB (lpF (fX0_pass_L12 β (nI d)) (sI β 1 (β.1 1 + nI d)) (cM μ)) ((lpF (fX7_ends_L12 μ (nI d)) (sE μ 0 1 (μ.2 0 1 + nI d)) (cM μ)).2 0)
  generalize lpF (fX0_pass_L12 β (nI d)) (sI β 1 (β.1 1 + nI d)) (cM μ) = B at p1 p2 p3
  generalize (lpF (fX7_ends_L12 μ (nI d)) (sE μ 0 1 (μ.2 0 1 + nI d)) (cM μ)).2 0 = f at q1 q2 q3
  obtain ⟨⟨a0, a1, a2, a3⟩, b1, b2, b3, b4, b5, b6, b7⟩ := h.b
  have e0 : f 0 = μ.2 0 0 := q1 0 (by decide) (by decide)
  have hn : nT f = nT (μ.2 0) := by unfold nT; rw [e0]
  have e1 : f 1 = nI (dyT (μ.2 0) + d) := by rw [q2, b7.1, nI_add]
  have hdy : dyT f = dyT (μ.2 0) + d := by
    show (f 1).toNatClampNeg = _
    rw [e1, nI_clamp (by omega)]
  have ho : ∀ t w, w < 10 → w ≠ 7 → tk f t w = tk (μ.2 0) t w := fun t w hw h7 => by rw [q3 t w hw, if_neg (fun q => h7 q.1)]
  have hB : ∀ k, B.1 k = (sI β 1 (β.1 1 + nI d)).1 k := fun k => congrFun p1 k
  refine ⟨⟨?_, ?_, ?_, ?_⟩, fun o ho' => ?_, fun m hm => ?_, fun t ht => ?_, fun t g1 g2 w hw => ?_, ?_, fun o ho' => ?_, by rw [hdy]; exact ⟨e1, hd⟩⟩
  · rw [hB, e0]; exact a0
  · rw [hB, q2]; show β.1 1 + nI d = _; rw [a1]
  · rw [hB, q1 2 (by decide) (by decide)]; exact a2
  · rw [hB, q1 3 (by decide) (by decide)]; exact a3
  · rw [p2 10 (by decide), q1 (4 + o) (by omega) (by omega)]; exact b1 o ho'
  · rw [p2 12 (by decide), q1 (9 + m) (by omega) (by omega)]; exact b2 m hm
  · rw [hn] at ht
    obtain ⟨⟨r0, r1, r2, r3, r4, r5, r6, r7, r8, r9⟩, w1, w2, ⟨e, e2, e3⟩, w4⟩ := b3 t ht
    have h7 : tk f t 7 = if tk (μ.2 0) t 2 = 1 then tk (μ.2 0) t 7 + nI d else tk (μ.2 0) t 7 := by
      rw [q3 t 7 (by decide)]
      by_cases c : tk (μ.2 0) t 2 = 1
      · rw [if_pos ⟨rfl, ht, c⟩, if_pos c]
      · rw [if_neg (fun q => c q.2.2), if_neg c]
    refine ⟨⟨?_, ?_, ?_, ?_, ?_, ?_, ?_, ?_, ?_, ?_⟩, ?_, ?_, ?_, ?_⟩
    · rw [p2 0 (by decide), ho t 2 (by decide) (by decide)]; exact r0
    · rw [p2 1 (by decide), ho t 0 (by decide) (by decide)]; exact r1
    · rw [p2 2 (by decide), ho t 1 (by decide) (by decide)]; exact r2
    · rw [p2 3 (by decide), ho t 3 (by decide) (by decide)]; exact r3
    · rw [p2 4 (by decide), ho t 4 (by decide) (by decide)]; exact r4
    · rw [p2 5 (by decide), ho t 5 (by decide) (by decide)]; exact r5
    · rw [p2 6 (by decide), ho t 6 (by decide) (by decide), ho t 2 (by decide) (by decide)]; exact r6
    · rw [p3 t, h7, r0, r7]
      by_cases c : tk (μ.2 0) t 2 = 1
      · rw [if_pos ⟨ht, c⟩, if_pos c]
      · rw [if_neg (fun q => c q.2), if_neg c]
    · rw [p2 8 (by decide), ho t 8 (by decide) (by decide)]; exact r8
    · rw [p2 9 (by decide), ho t 9 (by decide) (by decide)]; exact r9
    · rw [ho t 2 (by decide) (by decide)]; exact w1
    · rw [ho t 0 (by decide) (by decide)]; exact w2
    · rw [h7, hdy]
      by_cases c : tk (μ.2 0) t 2 = 1
      · rw [if_pos c, e3, nI_add]; exact ⟨e + d, by omega, rfl⟩
      · rw [if_neg c]; exact ⟨e, by omega, e3⟩
    · rw [ho t 9 (by decide) (by decide), hn]; exact w4
  · rw [hn] at g1
    rw [q3 t w hw]
    have ht : ¬ t < cM μ := by
      show ¬ t < nT (μ.2 0)
      omega
    rw [if_neg (fun q => ht q.2.1)]
    exact b4 t g1 g2 w hw
  · exact Acy_same e0 (fun t _ => ho t 9 (by decide) (by decide)) b5
  · rw [p2 11 (by decide), b6 o ho', load_SU, load_SU, hn]
    refine (SU_same _ fun k _ => ?_).symm
    unfold lc
    rw [ho k 3 (by decide) (by decide), ho k 2 (by decide) (by decide), ho k 0 (by decide) (by decide)]
