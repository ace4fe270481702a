/-! ===== the critical chain ===== -/
theorem lt_le_ite {x v : Int32} : (if x < v then v else x) = (if v ≤ x then x else v) := by
  by_cases c : v ≤ x
  · rw [if_pos c, if_neg (Int32.not_lt.mpr c)]
  · rw [if_neg c, if_pos (Int32.not_le.mp c)]
theorem counted_eq {β μ : BS} (h : AL β μ) {t : Nat} (ht : t < cM μ) : fX1_countedPoints β t = own9 μ true t := by
  unfold fX1_countedPoints own9
  rw [unf_eq h ht, h.pt ht, if_pos rfl]
theorem critical_mxs (μ : BS) : (fX7_critical μ).1 = mxs (fun _ => true) ((fX7_tellsChains μ true).2 8) (cM μ) := lpF_congr _ fun i x hi => by
  unfold fX7_critical_L9
  rw [if_pos rfl]
-- by an order
theorem plc_key {β μ : BS} (h : AL β μ) {a : Int32} : ∀ d i, d + i = cM μ + 1 → (∀ t, t < i → t < cM μ → ¬ (bt a t = false ∧ ∀ u, u < 32 → bt (fX7_of μ t 9) u = true → bt a u = true)) → (∃ t, t < cM μ ∧ fX1_placeable_R2 β a d i () = nI t ∧ bt a t = false ∧ ∀ u, u < 32 → bt (fX7_of μ t 9) u = true → bt a u = true) ∨ ∀ t, t < cM μ → ¬ (bt a t = false ∧ ∀ u, u < 32 → bt (fX7_of μ t 9) u = true → bt a u = true) := by
  have hn := h.n20
  intro d
  induction d with
  | zero => intro i hd hp; exact Or.inr fun t ht => hp t (by omega) ht
  | succ d ih =>
    intro i hd hp
    rw [fX1_placeable_R2, h.b.1.1, h.f0]
    by_cases c : nI (cM μ) ≤ nI i
    · have := (nI_leI (by omega) (by omega)).mp c
      exact Or.inr fun t ht => hp t (by omega) ht
    · rw [if_neg c]
      have hi : i < cM μ := by
        rcases Nat.lt_or_ge i (cM μ) with q | q
        · exact q
        · exact absurd (nI_le q (by omega)) c
      rw [isIn_bt (by omega), h.nd hi]
      by_cases c1 : bt a i = true
      · rw [if_pos c1]
        refine ih (i + 1) (by omega) fun t ht ht2 => ?_
        by_cases e : t = i
        · subst e; exact fun q => by rw [q.1] at c1; cases c1
        · exact hp t (by omega) ht2
      · rw [if_neg c1]
        by_cases c2 : ∀ u, u < 32 → bt (fX7_of μ i 9) u = true → bt a u = true
        · rw [if_pos (sub_bt.mpr c2)]
          exact Or.inl ⟨i, hi, rfl, tf_of c1, c2⟩
        · rw [if_neg (fun q => c2 (sub_bt.mp q))]
          refine ih (i + 1) (by omega) fun t ht ht2 => ?_
          by_cases e : t = i
          · subst e; exact fun q => c2 q.2
          · exact hp t (by omega) ht2
theorem plc_some {β μ : BS} (h : AL β μ) {a : Int32} (hw : ∃ t, t < cM μ ∧ bt a t = false) : ∃ t, t < cM μ ∧ fX1_placeable β a = nI t ∧ bt a t = false ∧ ∀ u, u < 32 → bt (fX7_of μ t 9) u = true → bt a u = true := by
  unfold fX1_placeable
  rw [h.n]
  rcases plc_key h (a := a) (cM μ + 1) 0 rfl (fun t ht => by omega) with q | q
  · exact q
  · obtain ⟨t, t1, t2, t3⟩ := some_free h hw
    exact absurd ⟨t2, t3⟩ (q t t1)
theorem bestNeeded_eq {β μ γ : BS} (h : AL β μ) {t : Nat} (ht : t < cM μ) : fX1_bestNeeded γ β t = mxs (bt (fX7_of μ t 9)) (γ.2 2) (cM μ) := by
  have hn := h.n20
  unfold fX1_bestNeeded
  rw [h.n]
  refine lpF_congr _ fun i x hi => ?_
  unfold fX1_bestNeeded_L5 fX0_needsDirectly
  rw [isIn_bt (by omega), h.nd ht, lt_le_ite]
def OI (μ : BS) (i : Nat) (x : Int32 × Int32 × BS) : Prop := SC μ x.2.1 ∧ pcn (bt x.2.1) 20 = i ∧ CH μ true (bt x.2.1) (x.2.2.2 2) ∧ 0 ≤ x.1 ∧ (∀ t, t < cM μ → bt x.2.1 t = true → x.2.2.2 2 t ≤ x.1) ∧ (x.1 = 0 ∨ ∃ t, t < cM μ ∧ bt x.2.1 t = true ∧ x.1 = x.2.2.2 2 t)
theorem OI_step {β μ : BS} (h : AL β μ) {i t : Nat} {x : Int32 × Int32 × BS} (hx : OI μ i x) (ht : t < cM μ) (c1 : bt x.2.1 t = false) (c2 : ∀ u, u < 32 → bt (fX7_of μ t 9) u = true → bt x.2.1 u = true) {v : Int32} (hv : v = own9 μ true t + mxs (bt (fX7_of μ t 9)) (x.2.2.2 2) (cM μ)) : OI μ (i + 1) ((if x.1 < v then v else x.1), x.2.1 ||| s1 t, sE x.2.2 2 t v) := by
  have hn := h.n20
  obtain ⟨⟨h2, h3⟩, hp, h4, m1, m2, m3⟩ := hx
  have hb : ∀ j, j < 32 → (bt (x.2.1 ||| s1 t) j = true ↔ bt x.2.1 j = true ∨ j = t) := fun j hj => by
    rw [bt_or, bt_s1 (by omega) hj]; simp
  have hup : ∀ j, j ≠ t → (sE x.2.2 2 t v).2 2 j = x.2.2.2 2 j := fun j hj => pk_un hj
  have hus : (sE x.2.2 2 t v).2 2 t = v := pk_us
  have hne : ∀ s, bt x.2.1 s = true → s ≠ t := fun s w e => by rw [e, c1] at w; cases w
  have hmx : ∀ s, (∀ u, u < 32 → bt (fX7_of μ s 9) u = true → bt x.2.1 u = true) → mxs (bt (fX7_of μ s 9)) ((sE x.2.2 2 t v).2 2) (cM μ) = mxs (bt (fX7_of μ s 9)) (x.2.2.2 2) (cM μ) := fun s hs => mxs_congr _ (fun _ _ => rfl) fun j hj w => hup j (hne j (hs j (by omega) w))
  refine ⟨⟨fun j g1 g2 => tf_of fun w => ?_, fun s hs w u hu w2 => ?_⟩, ?_, fun s hs w => ?_, ?_, fun s hs w => ?_, ?_⟩
  · rcases (hb j g2).mp w with w | w
    · rw [h2 j g1 g2] at w; cases w
    · omega
  · refine (hb u hu).mpr (Or.inl ?_)
    rcases (hb s (by omega)).mp w with w | w
    · exact h3 s hs w u hu w2
    · subst w; exact c2 u hu w2
  · show pcn (bt (x.2.1 ||| s1 t)) 20 = i + 1
    rw [pcn_s1 (by omega) (by omega) c1, hp]
  · rcases (hb s (by omega)).mp w with w | w
    · show (sE x.2.2 2 t v).2 2 s = _
      rw [hup s (hne s w), h4 s hs w]
      show _ = own9 μ true s + mxs (bt (fX7_of μ s 9)) ((sE x.2.2 2 t v).2 2) (cM μ)
      rw [hmx s (h3 s hs w)]
    · subst w
      show (sE x.2.2 2 s v).2 2 s = own9 μ true s + mxs (bt (fX7_of μ s 9)) ((sE x.2.2 2 s v).2 2) (cM μ)
      rw [hus, hmx s c2, hv]
  · show 0 ≤ (if x.1 < v then v else x.1)
    split
    · rename_i q; exact Int32.le_trans m1 (Int32.le_of_lt q)
    · exact m1
  · show (sE x.2.2 2 t v).2 2 s ≤ (if x.1 < v then v else x.1)
    rcases (hb s (by omega)).mp w with w | w
    · rw [hup s (hne s w)]
      have := m2 s hs w
      split
      · rename_i q; exact Int32.le_trans this (Int32.le_of_lt q)
      · exact this
    · subst w
      rw [hus]
      split
      · exact Int32.le_refl _
      · rename_i q; exact Int32.not_lt.mp q
  · show (if x.1 < v then v else x.1) = 0 ∨ ∃ s, s < cM μ ∧ bt (x.2.1 ||| s1 t) s = true ∧ (if x.1 < v then v else x.1) = (sE x.2.2 2 t v).2 2 s
    by_cases q : x.1 < v
    · rw [if_pos q]
      exact Or.inr ⟨t, ht, (hb t (by omega)).mpr (Or.inr rfl), hus.symm⟩
    · rw [if_neg q]
      rcases m3 with m3 | ⟨s, s1', s2, s3⟩
      · exact Or.inl m3
      · exact Or.inr ⟨s, s1', (hb s (by omega)).mpr (Or.inl s2), by rw [hup s (hne s s2)]; exact s3⟩
theorem OI_all {μ : BS} (hn : cM μ ≤ 20) {x : Int32 × Int32 × BS} {i : Nat} (hx : OI μ i x) (hi : cM μ ≤ i) : ∀ t, t < cM μ → bt x.2.1 t = true := by
  have h1 : pcn (bt x.2.1) 20 = pcn (bt x.2.1) (cM μ) := pcn_cut hn fun j g1 g2 => hx.1.1 j g1 (by omega)
  have h2 := hx.2.1
  exact pcn_full (cM μ) (by omega)
theorem ord_key {β μ γ : BS} (h : AL β μ) : ∀ (d i : Nat) (x : Int32 × Int32 × BS), d + i = cM μ + 1 → OI μ i x → ∃ i' x', OI μ i' x' ∧ cM μ ≤ i' ∧ (fX1_mostPointsByOrder_R7 γ β d i x).1 = x'.1 := by
  have hn := h.n20
  intro d
  induction d with
  | zero =>
    intro i x hd hx
    exfalso
    have h1 : pcn (bt x.2.1) 20 = pcn (bt x.2.1) (cM μ) := pcn_cut hn fun j g1 g2 => hx.1.1 j g1 (by omega)
    have h2 := pcn_le (bt x.2.1) (cM μ)
    have h3 := hx.2.1
    omega
  | succ d ih =>
    intro i x hd hx
    rw [fX1_mostPointsByOrder_R7, h.b.1.1, h.f0]
    by_cases c : nI (cM μ) ≤ nI i
    · rw [if_pos c]
      exact ⟨i, x, hx, (nI_leI (by omega) (by omega)).mp c, rfl⟩
    · rw [if_neg c]
      have hi : i < cM μ := by
        rcases Nat.lt_or_ge i (cM μ) with q | q
        · exact q
        · exact absurd (nI_le q (by omega)) c
      have hw : ∃ t, t < cM μ ∧ bt x.2.1 t = false := by
        by_cases q : ∃ t, t < cM μ ∧ bt x.2.1 t = false
        · exact q
        · exfalso
          have h1 : pcn (bt x.2.1) 20 = pcn (bt x.2.1) (cM μ) := pcn_cut hn fun j g1 g2 => hx.1.1 j g1 (by omega)
          have h2 : pcn (bt x.2.1) (cM μ) = pcn (fun _ => true) (cM μ) := pcn_congr _ fun t ht => by
            by_cases w : bt x.2.1 t = true
            · exact w
            · exact absurd ⟨t, ht, tf_of w⟩ q
          have h3 : ∀ k, pcn (fun _ => true) k = k := by
            intro k
            induction k with
            | zero => rfl
            | succ k ih => rw [pcn, ih]; rfl
          have := hx.2.1
          rw [h3] at h2
          omega
      obtain ⟨t, t1, t2, t3, t4⟩ := plc_some h hw
      rw [t2, if_neg (fun q => by
        have := congrArg Int32.toInt q
        rw [nI_toInt (by omega), show (-1 : Int32).toInt = -1 from by decide] at this
        omega), nI_clamp (by omega), counted_eq h t1, bestNeeded_eq h t1]
      have e : (sE x.2.2 2 t (own9 μ true t + mxs (bt (fX7_of μ t 9)) (x.2.2.2 2) (cM μ))).2 2 t = own9 μ true t + mxs (bt (fX7_of μ t 9)) (x.2.2.2 2) (cM μ) := pk_us
      rw [e]
      exact ih (i + 1) _ (by omega) (OI_step h hx t1 t3 t4 rfl)
theorem byOrder_eq {β μ γ : BS} (h : AL β μ) : (fX1_mostPointsByOrder γ β).1 = (fX7_critical μ).1 := by
  have hn := h.n20
  obtain ⟨-, h2, -⟩ := tellsChains_CH h true
  obtain ⟨r, hr⟩ := h.b.2.2.2.2.2.1
  unfold fX1_mostPointsByOrder
  rw [h.n]
  have e0 : ∀ t, bt ((0, 0, γ) : Int32 × Int32 × BS).2.1 t = true → False := fun t w => by
    rw [show ((0, 0, γ) : Int32 × Int32 × BS).2.1 = 0 from rfl, bt_0] at w
    cases w
  have e1 : pcn (bt ((0, 0, γ) : Int32 × Int32 × BS).2.1) 20 = 0 := by
    show pcn (bt 0) 20 = 0
    decide +kernel
  obtain ⟨i', x', q1, q2, q3⟩ := ord_key (γ := γ) h (cM μ + 1) 0 (0, 0, γ) rfl ⟨⟨fun j _ _ => bt_0 j, fun t _ w => (e0 t w).elim⟩, e1, fun t _ w => (e0 t w).elim, Int32.le_refl _, fun t _ w => (e0 t w).elim, Or.inl rfl⟩
  rw [q3, critical_mxs]
  have hall := OI_all hn q1 q2
  have hc : ∀ t, t < cM μ → x'.2.2.2 2 t = (fX7_tellsChains μ true).2 8 t := CH_uniq hn hr (fun t ht _ => q1.2.2.1 t ht (hall t ht)) h2
  refine (mxs_uniq q1.2.2.2.1 (fun t ht _ => ?_) ?_).symm
  · rw [← hc t ht]; exact q1.2.2.2.2.1 t ht (hall t ht)
  · rcases q1.2.2.2.2.2 with q | ⟨t, t1, t2, t3⟩
    · exact Or.inl q
    · exact Or.inr ⟨t, t1, rfl, by rw [t3, hc t t1]⟩
-- by trying
def MI (μ : BS) (ν : BS) : Prop := ∀ u, u < cM μ → ν.2 1 u = -1 ∨ ν.2 1 u = (fX7_tellsChains μ true).2 8 u
theorem MI_put {μ ν : BS} {t : Nat} {v : Int32} (h : MI μ ν) (hv : v = (fX7_tellsChains μ true).2 8 t) : MI μ (sE ν 1 t v) := fun u hu => by
  show upd (ν.2 1) t v u = -1 ∨ upd (ν.2 1) t v u = _
  unfold upd
  by_cases e : u = t
  · subst e; rw [if_pos rfl]; exact Or.inr hv
  · rw [if_neg e]; exact h u hu
theorem try_key {β μ : BS} (h : AL β μ) : ∀ (k t : Nat) (ν : BS), t < cM μ → LC μ t ≤ k + 1 → MI μ ν → (fX1_tryFrom k ν β t).1 = (fX7_tellsChains μ true).2 8 t ∧ MI μ (fX1_tryFrom k ν β t).2 := by
  have hn := h.n20
  obtain ⟨-, h2, -⟩ := tellsChains_CH h true
  intro k
  induction k with
  | zero =>
    intro t ν ht hl hm
    have e0 : mxs (bt (fX7_of μ t 9)) ((fX7_tellsChains μ true).2 8) (cM μ) = 0 := mxs_uniq (Int32.le_refl _) (fun i hi w => by
      have := (LC_spec h ht).2.2.2.1 i hi w
      have := (LC_spec h hi).1
      omega) (Or.inl rfl)
    have eW : (fX7_tellsChains μ true).2 8 t = fX1_countedPoints β t + 0 := by rw [h2 t ht rfl, e0, counted_eq h ht]
    rw [fX1_tryFrom]
    unfold fX1_tryFrom_z
    by_cases c : ν.2 1 t = -1
    · rw [if_pos c]
      have e : (sE ν 1 t (fX1_countedPoints β t + 0)).2 1 t = fX1_countedPoints β t + 0 := pk_us
      split <;> exact ⟨by rw [eW]; exact e, MI_put hm eW.symm⟩
    · rw [if_neg c]
      exact ⟨(hm t ht).elim (fun q => absurd q c) id, hm⟩
  | succ k ih =>
    intro t ν ht hl hm
    rw [fX1_tryFrom]
    unfold fX1_tryFrom_s
    by_cases c : ν.2 1 t = -1
    · rw [if_pos c]
      have hloop : (lpF (fX1_tryFrom_s_L17 (fun γ' u => fX1_tryFrom k γ' β u) ν β t) (0, ν) (cM μ)).1 = mxs (bt (fX7_of μ t 9)) ((fX7_tellsChains μ true).2 8) (cM μ) ∧ MI μ (lpF (fX1_tryFrom_s_L17 (fun γ' u => fX1_tryFrom k γ' β u) ν β t) (0, ν) (cM μ)).2 := by
        refine lpF_invN (P := fun m (z : Int32 × BS) => z.1 = mxs (bt (fX7_of μ t 9)) ((fX7_tellsChains μ true).2 8) m ∧ MI μ z.2) ⟨rfl, hm⟩ (cM μ) fun i z hi hz => ?_
        have e1 : mxs (bt (fX7_of μ t 9)) ((fX7_tellsChains μ true).2 8) (i + 1) = if bt (fX7_of μ t 9) i = true then (if (fX7_tellsChains μ true).2 8 i ≤ mxs (bt (fX7_of μ t 9)) ((fX7_tellsChains μ true).2 8) i then mxs (bt (fX7_of μ t 9)) ((fX7_tellsChains μ true).2 8) i else (fX7_tellsChains μ true).2 8 i) else mxs (bt (fX7_of μ t 9)) ((fX7_tellsChains μ true).2 8) i := rfl
        unfold fX1_tryFrom_s_L17 fX0_needsDirectly
        rw [isIn_bt (by omega), h.nd ht, e1]
        by_cases w : bt (fX7_of μ t 9) i = true
        · rw [if_pos w, if_pos w]
          have hlt := (LC_spec h ht).2.2.2.1 i hi w
          obtain ⟨r1, r2⟩ := ih i z.2 hi (by omega) hz.2
          refine ⟨?_, r2⟩
          show (if z.1 < (fX1_tryFrom k z.2 β i).1 then (fX1_tryFrom k z.2 β i).1 else z.1) = _
          rw [r1, hz.1, lt_le_ite]
        · rw [if_neg w, if_neg w]; exact hz
      rw [h.n]
      have eW : fX1_countedPoints β t + (lpF (fX1_tryFrom_s_L17 (fun γ' u => fX1_tryFrom k γ' β u) ν β t) (0, ν) (cM μ)).1 = (fX7_tellsChains μ true).2 8 t := by rw [hloop.1, counted_eq h ht, h2 t ht rfl]
      refine ⟨?_, MI_put hloop.2 eW⟩
      refine Eq.trans ?_ eW
      exact pk_us
    · rw [if_neg c]
      exact ⟨(hm t ht).elim (fun q => absurd q c) id, hm⟩
theorem byTrying_eq {β μ γ : BS} (h : AL β μ) : (fX1_mostPointsByTrying γ β).1 = (fX7_critical μ).1 := by
  have hn := h.n20
  unfold fX1_mostPointsByTrying
  rw [h.n, critical_mxs]
  have h0 : MI μ (lpF (fX1_mostPointsByTrying_L2 γ β) γ (cM μ)) := by
    have key : ∀ m, ∀ u, u < m → (lpF (fX1_mostPointsByTrying_L2 γ β) γ m).2 1 u = -1 := by
      intro m
      induction m with
      | zero => intro u hu; omega
      | succ m ih =>
        intro u hu
        rw [lpF_1]
        unfold fX1_mostPointsByTrying_L2
        show upd _ m (-1) u = -1
        unfold upd
        by_cases e : u = m
        · rw [if_pos e]
        · rw [if_neg e]; exact ih u (by omega)
    exact fun u hu => Or.inl (key (cM μ) u hu)
  have hl : (lpF (fX1_mostPointsByTrying_L27 γ β) (0, lpF (fX1_mostPointsByTrying_L2 γ β) γ (cM μ)) (cM μ)).1 = mxs (fun _ => true) ((fX7_tellsChains μ true).2 8) (cM μ) ∧ MI μ (lpF (fX1_mostPointsByTrying_L27 γ β) (0, lpF (fX1_mostPointsByTrying_L2 γ β) γ (cM μ)) (cM μ)).2 := by
    refine lpF_invN (P := fun m (z : Int32 × BS) => z.1 = mxs (fun _ => true) ((fX7_tellsChains μ true).2 8) m ∧ MI μ z.2) ⟨rfl, h0⟩ (cM μ) fun i z hi hz => ?_
    have e1 : mxs (fun _ => true) ((fX7_tellsChains μ true).2 8) (i + 1) = if (fX7_tellsChains μ true).2 8 i ≤ mxs (fun _ => true) ((fX7_tellsChains μ true).2 8) i then mxs (fun _ => true) ((fX7_tellsChains μ true).2 8) i else (fX7_tellsChains μ true).2 8 i := by
      show (if true = true then (if (fX7_tellsChains μ true).2 8 i ≤ mxs (fun _ => true) ((fX7_tellsChains μ true).2 8) i then mxs (fun _ => true) ((fX7_tellsChains μ true).2 8) i else (fX7_tellsChains μ true).2 8 i) else mxs (fun _ => true) ((fX7_tellsChains μ true).2 8) i) = _
      rw [if_pos rfl]
    obtain ⟨r1, r2⟩ := try_key h 19 i z.2 hi (by have := (LC_spec h hi).2.1; omega) hz.2
    unfold fX1_mostPointsByTrying_L27
    refine ⟨?_, r2⟩
    show (if z.1 < (fX1_tryFrom 19 z.2 β i).1 then (fX1_tryFrom 19 z.2 β i).1 else z.1) = _
    rw [r1, hz.1, e1, lt_le_ite]
  exact hl.1
