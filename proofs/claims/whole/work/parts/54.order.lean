/-! ===== the critical chain ===== -/
theorem lt_le_ite {x v : Int32} : (if x < v then v else x) = (if v ≤ x then x else v) := by
  by_cases c : v ≤ x
  · rw [if_pos c, if_neg (Int32.not_lt.mpr c)]
  · rw [if_neg c, if_pos (Int32.not_le.mp c)]
theorem counted_eq {β μ : BS} (h : AL β μ) {t : Nat} (ht : t < cM μ) : fX1_countedPoints β t = own9 μ true t := by
  unfold fX1_countedPoints own9
  rw [unf_eq h ht, h.pt ht, if_pos rfl]
theorem critical_mxs (μ : BS) : (fX7_critical μ).1 = mxs (fun _ => true) ((fX7_tellsChains μ true).2 8) (cM μ) := lpF_congr _ fun i x hi => by
  unfold fX7_critical_L9
  rw [if_pos rfl]
theorem W_nat {β μ : BS} (h : AL β μ) : ∀ d t, LC μ t < d → t < cM μ → ∃ w : Nat, w ≤ 13 * LC μ t ∧ (fX7_tellsChains μ true).2 8 t = nI w := by
  have hn := h.n20
  obtain ⟨-, h2, -⟩ := tellsChains_CH h true
  intro d
  induction d with
  | zero => intro t h; omega
  | succ d ih =>
    intro t hd ht
    obtain ⟨l1, l2, l3, l4, l5⟩ := LC_spec h ht
    have h4 := h2 t ht rfl
    have ho : ∃ p : Nat, p ≤ 13 ∧ own9 μ true t = nI p := by
      unfold own9
      rw [if_pos rfl]
      by_cases c : fX7_isLeft μ t = true
      · rw [if_pos c]
        obtain ⟨p, p1, p2, p3⟩ := (h.wt ht).2.1
        exact ⟨p, p2, p3⟩
      · rw [if_neg c]; exact ⟨0, by omega, rfl⟩
    obtain ⟨p, p1, p2⟩ := ho
    obtain ⟨g1, g2, g3⟩ := mxs_spec (bt (fX7_of μ t 9)) ((fX7_tellsChains μ true).2 8) (cM μ)
    rcases g3 with g3 | ⟨k, hk, w, g3⟩
    · exact ⟨p, by omega, by rw [h4, p2, g3, add_z]⟩
    · have hlt := l4 k hk w
      obtain ⟨v, v1, v2⟩ := ih k (by omega) hk
      exact ⟨p + v, by omega, by rw [h4, p2, g3, v2, nI_add]⟩
-- by an order
theorem plc_key {β μ : BS} (h : AL β μ) {a : Int32} : ∀ d i, d + i = cM μ + 1 → (∀ t, t < i → t < cM μ → ¬ (bt a t = false ∧ ∀ u, u < 32 → bt (fX7_of μ t 9) u = true → bt a u = true)) → (∃ t, t < cM μ ∧ fX1_placeable_R2 β a d i () = nI t ∧ bt a t = false ∧ ∀ u, u < 32 → bt (fX7_of μ t 9) u = true → bt a u = true) ∨ ∀ t, t < cM μ → ¬ (bt a t = false ∧ ∀ u, u < 32 → bt (fX7_of μ t 9) u = true → bt a u = true) := by
  have hn := h.n20
  intro d
  induction d with
  | zero => intro i hd hp; exact Or.inr fun t ht => hp t (by omega) ht
  | succ d ih =>
    intro i hd hp
    rw [fX1_placeable_R2, h.b.1.1, h.f0]
    by_cases c : nI (cM μ) ≤ nI i
    · have := (nI_leI (by omega) (by omega)).mp c
      exact Or.inr fun t ht => hp t (by omega) ht
    · rw [if_neg c]
      have hi : i < cM μ := by
        rcases Nat.lt_or_ge i (cM μ) with q | q
        · exact q
        · exact absurd (nI_le q (by omega)) c
      rw [isIn_bt (by omega), h.nd hi]
      by_cases c1 : bt a i = true
      · rw [if_pos c1]
        refine ih (i + 1) (by omega) fun t ht ht2 => ?_
        by_cases e : t = i
        · subst e; exact fun q => by rw [q.1] at c1; cases c1
        · exact hp t (by omega) ht2
      · rw [if_neg c1]
        by_cases c2 : ∀ u, u < 32 → bt (fX7_of μ i 9) u = true → bt a u = true
        · rw [if_pos (sub_bt.mpr c2)]
          exact Or.inl ⟨i, hi, rfl, tf_of c1, c2⟩
        · rw [if_neg (fun q => c2 (sub_bt.mp q))]
          refine ih (i + 1) (by omega) fun t ht ht2 => ?_
          by_cases e : t = i
          · subst e; exact fun q => c2 q.2
          · exact hp t (by omega) ht2
theorem plc_some {β μ : BS} (h : AL β μ) {a : Int32} (hw : ∃ t, t < cM μ ∧ bt a t = false) : ∃ t, t < cM μ ∧ fX1_placeable β a = nI t ∧ bt a t = false ∧ ∀ u, u < 32 → bt (fX7_of μ t 9) u = true → bt a u = true := by
  unfold fX1_placeable
  rw [h.n]
  rcases plc_key h (a := a) (cM μ + 1) 0 rfl (fun t ht => by omega) with q | q
  · exact q
  · obtain ⟨t, t1, t2, t3⟩ := some_free h hw
    exact absurd ⟨t2, t3⟩ (q t t1)
theorem bestNeeded_eq {β μ γ : BS} (h : AL β μ) {t : Nat} (ht : t < cM μ) : fX1_bestNeeded γ β t = mxs (bt (fX7_of μ t 9)) (γ.2 2) (cM μ) := by
  have hn := h.n20
  unfold fX1_bestNeeded
  rw [h.n]
  refine lpF_congr _ fun i x hi => ?_
  unfold fX1_bestNeeded_L5 fX0_needsDirectly
  rw [isIn_bt (by omega), h.nd ht, lt_le_ite]
def OI (μ : BS) (i : Nat) (x : Int32 × Int32 × BS) : Prop := SC μ x.2.1 ∧ pcn (bt x.2.1) 20 = i ∧ CH μ true (bt x.2.1) (x.2.2.2 2) ∧ 0 ≤ x.1 ∧ (∀ t, t < cM μ → bt x.2.1 t = true → x.2.2.2 2 t ≤ x.1) ∧ (x.1 = 0 ∨ ∃ t, t < cM μ ∧ bt x.2.1 t = true ∧ x.1 = x.2.2.2 2 t)
theorem OI_step {β μ : BS} (h : AL β μ) {i t : Nat} {x : Int32 × Int32 × BS} (hx : OI μ i x) (ht : t < cM μ) (c1 : bt x.2.1 t = false) (c2 : ∀ u, u < 32 → bt (fX7_of μ t 9) u = true → bt x.2.1 u = true) {v : Int32} (hv : v = own9 μ true t + mxs (bt (fX7_of μ t 9)) (x.2.2.2 2) (cM μ)) : OI μ (i + 1) ((if x.1 < v then v else x.1), x.2.1 ||| s1 t, sE x.2.2 2 t v) := by
  have hn := h.n20
  obtain ⟨⟨h2, h3⟩, hp, h4, m1, m2, m3⟩ := hx
  have hb : ∀ j, j < 32 → (bt (x.2.1 ||| s1 t) j = true ↔ bt x.2.1 j = true ∨ j = t) := fun j hj => by
    rw [bt_or, bt_s1 (by omega) hj]; simp
  have hup : ∀ j, j ≠ t → (sE x.2.2 2 t v).2 2 j = x.2.2.2 2 j := fun j hj => pk_un hj
  have hus : (sE x.2.2 2 t v).2 2 t = v := pk_us
  have hne : ∀ s, bt x.2.1 s = true → s ≠ t := fun s w e => by rw [e, c1] at w; cases w
  have hmx : ∀ s, (∀ u, u < 32 → bt (fX7_of μ s 9) u = true → bt x.2.1 u = true) → mxs (bt (fX7_of μ s 9)) ((sE x.2.2 2 t v).2 2) (cM μ) = mxs (bt (fX7_of μ s 9)) (x.2.2.2 2) (cM μ) := fun s hs => mxs_congr _ (fun _ _ => rfl) fun j hj w => hup j (hne j (hs j (by omega) w))
  refine ⟨⟨fun j g1 g2 => tf_of fun w => ?_, fun s hs w u hu w2 => ?_⟩, ?_, fun s hs w => ?_, ?_, fun s hs w => ?_, ?_⟩
  · rcases (hb j g2).mp w with w | w
    · rw [h2 j g1 g2] at w; cases w
    · omega
  · refine (hb u hu).mpr (Or.inl ?_)
    rcases (hb s (by omega)).mp w with w | w
    · exact h3 s hs w u hu w2
    · subst w; exact c2 u hu w2
  · show pcn (bt (x.2.1 ||| s1 t)) 20 = i + 1
    rw [pcn_s1 (by omega) (by omega) c1, hp]
  · rcases (hb s (by omega)).mp w with w | w
    · show (sE x.2.2 2 t v).2 2 s = _
      rw [hup s (hne s w), h4 s hs w]
      show _ = own9 μ true s + mxs (bt (fX7_of μ s 9)) ((sE x.2.2 2 t v).2 2) (cM μ)
      rw [hmx s (h3 s hs w)]
    · subst w
      show (sE x.2.2 2 s v).2 2 s = own9 μ true s + mxs (bt (fX7_of μ s 9)) ((sE x.2.2 2 s v).2 2) (cM μ)
      rw [hus, hmx s c2, hv]
  · show 0 ≤ (if x.1 < v then v else x.1)
    split
    · rename_i q; exact Int32.le_trans m1 (Int32.le_of_lt q)
    · exact m1
  · show (sE x.2.2 2 t v).2 2 s ≤ (if x.1 < v then v else x.1)
    rcases (hb s (by omega)).mp w with w | w
    · rw [hup s (hne s w)]
      have := m2 s hs w
      split
      · rename_i q; exact Int32.le_trans this (Int32.le_of_lt q)
      · exact this
    · subst w
      rw [hus]
      split
      · exact Int32.le_refl _
      · rename_i q; exact Int32.not_lt.mp q
  · show (if x.1 < v then v else x.1) = 0 ∨ ∃ s, s < cM μ ∧ bt (x.2.1 ||| s1 t) s = true ∧ (if x.1 < v then v else x.1) = (sE x.2.2 2 t v).2 2 s
    by_cases q : x.1 < v
    · rw [if_pos q]
      exact Or.inr ⟨t, ht, (hb t (by omega)).mpr (Or.inr rfl), hus.symm⟩
    · rw [if_neg q]
      rcases m3 with m3 | ⟨s, s1', s2, s3⟩
      · exact Or.inl m3
      · exact Or.inr ⟨s, s1', (hb s (by omega)).mpr (Or.inl s2), by rw [hup s (hne s s2)]; exact s3⟩
theorem OI_all {μ : BS} (hn : cM μ ≤ 20) {x : Int32 × Int32 × BS} {i : Nat} (hx : OI μ i x) (hi : cM μ ≤ i) : ∀ t, t < cM μ → bt x.2.1 t = true := by
  have h1 : pcn (bt x.2.1) 20 = pcn (bt x.2.1) (cM μ) := pcn_cut hn fun j g1 g2 => hx.1.1 j g1 (by omega)
  have h2 := hx.2.1
  exact pcn_full (cM μ) (by omega)
theorem ord_key {β μ γ : BS} (h : AL β μ) : ∀ (d i : Nat) (x : Int32 × Int32 × BS), d + i = cM μ + 1 → OI μ i x → ∃ i' x', OI μ i' x' ∧ cM μ ≤ i' ∧ (fX1_mostPointsByOrder_R7 γ β d i x).1 = x'.1 := by
  have hn := h.n20
  intro d
  induction d with
  | zero =>
    intro i x hd hx
    exfalso
    have h1 : pcn (bt x.2.1) 20 = pcn (bt x.2.1) (cM μ) := pcn_cut hn fun j g1 g2 => hx.1.1 j g1 (by omega)
    have h2 := pcn_le (bt x.2.1) (cM μ)
    have h3 := hx.2.1
    omega
  | succ d ih =>
    intro i x hd hx
    rw [fX1_mostPointsByOrder_R7, h.b.1.1, h.f0]
    by_cases c : nI (cM μ) ≤ nI i
    · rw [if_pos c]
      exact ⟨i, x, hx, (nI_leI (by omega) (by omega)).mp c, rfl⟩
    · rw [if_neg c]
      have hi : i < cM μ := by
        rcases Nat.lt_or_ge i (cM μ) with q | q
        · exact q
        · exact absurd (nI_le q (by omega)) c
      have hw : ∃ t, t < cM μ ∧ bt x.2.1 t = false := by
        by_cases q : ∃ t, t < cM μ ∧ bt x.2.1 t = false
        · exact q
        · exfalso
          have h1 : pcn (bt x.2.1) 20 = pcn (bt x.2.1) (cM μ) := pcn_cut hn fun j g1 g2 => hx.1.1 j g1 (by omega)
          have h2 : pcn (bt x.2.1) (cM μ) = pcn (fun _ => true) (cM μ) := pcn_congr _ fun t ht => by
            by_cases w : bt x.2.1 t = true
            · exact w
            · exact absurd ⟨t, ht, tf_of w⟩ q
          have h3 : ∀ k, pcn (fun _ => true) k = k := by
            intro k
            induction k with
            | zero => rfl
            | succ k ih => rw [pcn, ih]; rfl
          have := hx.2.1
          rw [h3] at h2
          omega
      obtain ⟨t, t1, t2, t3, t4⟩ := plc_some h hw
      rw [t2, if_neg (fun q => by
        have := congrArg Int32.toInt q
        rw [nI_toInt (by omega), show (-1 : Int32).toInt = -1 from by decide] at this
        omega), nI_clamp (by omega), counted_eq h t1, bestNeeded_eq h t1]
      have e : (sE x.2.2 2 t (own9 μ true t + mxs (bt (fX7_of μ t 9)) (x.2.2.2 2) (cM μ))).2 2 t = own9 μ true t + mxs (bt (fX7_of μ t 9)) (x.2.2.2 2) (cM μ) := pk_us
      rw [e]
      exact ih (i + 1) _ (by omega) (OI_step h hx t1 t3 t4 rfl)
theorem byOrder_eq {β μ γ : BS} (h : AL β μ) : (fX1_mostPointsByOrder γ β).1 = (fX7_critical μ).1 := by
  have hn := h.n20
  obtain ⟨-, h2, -⟩ := tellsChains_CH h true
  obtain ⟨r, hr⟩ := h.b.2.2.2.2.2.1
  unfold fX1_mostPointsByOrder
  rw [h.n]
  have e0 : ∀ t, bt ((0, 0, γ) : Int32 × Int32 × BS).2.1 t = true → False := fun t w => by
    rw [show ((0, 0, γ) : Int32 × Int32 × BS).2.1 = 0 from rfl, bt_0] at w
    cases w
  have e1 : pcn (bt ((0, 0, γ) : Int32 × Int32 × BS).2.1) 20 = 0 := by
    show pcn (bt 0) 20 = 0
    decide +kernel
  obtain ⟨i', x', q1, q2, q3⟩ := ord_key (γ := γ) h (cM μ + 1) 0 (0, 0, γ) rfl ⟨⟨fun j _ _ => bt_0 j, fun t _ w => (e0 t w).elim⟩, e1, fun t _ w => (e0 t w).elim, Int32.le_refl _, fun t _ w => (e0 t w).elim, Or.inl rfl⟩
  rw [q3, critical_mxs]
  have hall := OI_all hn q1 q2
  have hc : ∀ t, t < cM μ → x'.2.2.2 2 t = (fX7_tellsChains μ true).2 8 t := CH_uniq hn hr (fun t ht _ => q1.2.2.1 t ht (hall t ht)) h2
  refine (mxs_uniq q1.2.2.2.1 (fun t ht _ => ?_) ?_).symm
  · rw [← hc t ht]; exact q1.2.2.2.2.1 t ht (hall t ht)
  · rcases q1.2.2.2.2.2 with q | ⟨t, t1, t2, t3⟩
    · exact Or.inl q
    · exact Or.inr ⟨t, t1, rfl, by rw [t3, hc t t1]⟩
-- by trying
def MI (μ : BS) (ν : BS) : Prop := ∀ u, u < cM μ → ν.2 1 u = -1 ∨ ν.2 1 u = (fX7_tellsChains μ true).2 8 u
theorem MI_put {μ ν : BS} {t : Nat} {v : Int32} (h : MI μ ν) (hv : v = (fX7_tellsChains μ true).2 8 t) : MI μ (sE ν 1 t v) := fun u hu => by
  show upd (ν.2 1) t v u = -1 ∨ upd (ν.2 1) t v u = _
  unfold upd
  by_cases e : u = t
  · subst e; rw [if_pos rfl]; exact Or.inr hv
  · rw [if_neg e]; exact h u hu
theorem try_key {β μ : BS} (h : AL β μ) : ∀ (k t : Nat) (ν : BS), t < cM μ → LC μ t ≤ k + 1 → MI μ ν → (fX1_tryFrom k ν β t).1 = (fX7_tellsChains μ true).2 8 t ∧ MI μ (fX1_tryFrom k ν β t).2 := by
  have hn := h.n20
  obtain ⟨-, h2, -⟩ := tellsChains_CH h true
  intro k
  induction k with
  | zero =>
    intro t ν ht hl hm
    have e0 : mxs (bt (fX7_of μ t 9)) ((fX7_tellsChains μ true).2 8) (cM μ) = 0 := mxs_uniq (Int32.le_refl _) (fun i hi w => by
      have := (LC_spec h ht).2.2.2.1 i hi w
      have := (LC_spec h hi).1
      omega) (Or.inl rfl)
    have eW : (fX7_tellsChains μ true).2 8 t = fX1_countedPoints β t + 0 := by rw [h2 t ht rfl, e0, counted_eq h ht]
    rw [fX1_tryFrom]
    unfold fX1_tryFrom_z
    by_cases c : ν.2 1 t = -1
    · rw [if_pos c]
      have e : (sE ν 1 t (fX1_countedPoints β t + 0)).2 1 t = fX1_countedPoints β t + 0 := pk_us
      split <;> exact ⟨by rw [eW]; exact e, MI_put hm eW.symm⟩
    · rw [if_neg c]
      exact ⟨(hm t ht).elim (fun q => absurd q c) id, hm⟩
  | succ k ih =>
    intro t ν ht hl hm
    rw [fX1_tryFrom]
    unfold fX1_tryFrom_s
    by_cases c : ν.2 1 t = -1
    · rw [if_pos c]
      have hloop : (lpF (fX1_tryFrom_s_L17 (fun γ' u => fX1_tryFrom k γ' β u) ν β t) (0, ν) (cM μ)).1 = mxs (bt (fX7_of μ t 9)) ((fX7_tellsChains μ true).2 8) (cM μ) ∧ MI μ (lpF (fX1_tryFrom_s_L17 (fun γ' u => fX1_tryFrom k γ' β u) ν β t) (0, ν) (cM μ)).2 := by
        refine lpF_invN (P := fun m (z : Int32 × BS) => z.1 = mxs (bt (fX7_of μ t 9)) ((fX7_tellsChains μ true).2 8) m ∧ MI μ z.2) ⟨rfl, hm⟩ (cM μ) fun i z hi hz => ?_
        have e1 : mxs (bt (fX7_of μ t 9)) ((fX7_tellsChains μ true).2 8) (i + 1) = if bt (fX7_of μ t 9) i = true then (if (fX7_tellsChains μ true).2 8 i ≤ mxs (bt (fX7_of μ t 9)) ((fX7_tellsChains μ true).2 8) i then mxs (bt (fX7_of μ t 9)) ((fX7_tellsChains μ true).2 8) i else (fX7_tellsChains μ true).2 8 i) else mxs (bt (fX7_of μ t 9)) ((fX7_tellsChains μ true).2 8) i := rfl
        unfold fX1_tryFrom_s_L17 fX0_needsDirectly
        rw [isIn_bt (by omega), h.nd ht, e1]
        by_cases w : bt (fX7_of μ t 9) i = true
        · rw [if_pos w, if_pos w]
          have hlt := (LC_spec h ht).2.2.2.1 i hi w
          obtain ⟨r1, r2⟩ := ih i z.2 hi (by omega) hz.2
          refine ⟨?_, r2⟩
          show (if z.1 < (fX1_tryFrom k z.2 β i).1 then (fX1_tryFrom k z.2 β i).1 else z.1) = _
          rw [r1, hz.1, lt_le_ite]
        · rw [if_neg w, if_neg w]; exact hz
      rw [h.n]
      have eW : fX1_countedPoints β t + (lpF (fX1_tryFrom_s_L17 (fun γ' u => fX1_tryFrom k γ' β u) ν β t) (0, ν) (cM μ)).1 = (fX7_tellsChains μ true).2 8 t := by rw [hloop.1, counted_eq h ht, h2 t ht rfl]
      refine ⟨?_, MI_put hloop.2 eW⟩
      refine Eq.trans ?_ eW
      exact pk_us
    · rw [if_neg c]
      exact ⟨(hm t ht).elim (fun q => absurd q c) id, hm⟩
theorem byTrying_eq {β μ γ : BS} (h : AL β μ) : (fX1_mostPointsByTrying γ β).1 = (fX7_critical μ).1 := by
  have hn := h.n20
  unfold fX1_mostPointsByTrying
  rw [h.n, critical_mxs]
  have h0 : MI μ (lpF (fX1_mostPointsByTrying_L2 γ β) γ (cM μ)) := by
    have key : ∀ m, ∀ u, u < m → (lpF (fX1_mostPointsByTrying_L2 γ β) γ m).2 1 u = -1 := by
      intro m
      induction m with
      | zero => intro u hu; omega
      | succ m ih =>
        intro u hu
        rw [lpF_1]
        unfold fX1_mostPointsByTrying_L2
        show upd _ m (-1) u = -1
        unfold upd
        by_cases e : u = m
        · rw [if_pos e]
        · rw [if_neg e]; exact ih u (by omega)
    exact fun u hu => Or.inl (key (cM μ) u hu)
  have hl : (lpF (fX1_mostPointsByTrying_L27 γ β) (0, lpF (fX1_mostPointsByTrying_L2 γ β) γ (cM μ)) (cM μ)).1 = mxs (fun _ => true) ((fX7_tellsChains μ true).2 8) (cM μ) ∧ MI μ (lpF (fX1_mostPointsByTrying_L27 γ β) (0, lpF (fX1_mostPointsByTrying_L2 γ β) γ (cM μ)) (cM μ)).2 := by
    refine lpF_invN (P := fun m (z : Int32 × BS) => z.1 = mxs (fun _ => true) ((fX7_tellsChains μ true).2 8) m ∧ MI μ z.2) ⟨rfl, h0⟩ (cM μ) fun i z hi hz => ?_
    have e1 : mxs (fun _ => true) ((fX7_tellsChains μ true).2 8) (i + 1) = if (fX7_tellsChains μ true).2 8 i ≤ mxs (fun _ => true) ((fX7_tellsChains μ true).2 8) i then mxs (fun _ => true) ((fX7_tellsChains μ true).2 8) i else (fX7_tellsChains μ true).2 8 i := by
      show (if true = true then (if (fX7_tellsChains μ true).2 8 i ≤ mxs (fun _ => true) ((fX7_tellsChains μ true).2 8) i then mxs (fun _ => true) ((fX7_tellsChains μ true).2 8) i else (fX7_tellsChains μ true).2 8 i) else mxs (fun _ => true) ((fX7_tellsChains μ true).2 8) i) = _
      rw [if_pos rfl]
    obtain ⟨r1, r2⟩ := try_key h 19 i z.2 hi (by have := (LC_spec h hi).2.1; omega) hz.2
    unfold fX1_mostPointsByTrying_L27
    refine ⟨?_, r2⟩
    show (if z.1 < (fX1_tryFrom 19 z.2 β i).1 then (fX1_tryFrom 19 z.2 β i).1 else z.1) = _
    rw [r1, hz.1, e1, lt_le_ite]
  exact hl.1
/-! ===== the order of closing ===== -/
theorem first_spec {μ : BS} (hn : cM μ ≤ 20) (a : Int32) : (fX7_firstOf μ a = -1 ∧ ∀ t, t < cM μ → bt a t = false) ∨ ∃ j, j < cM μ ∧ fX7_firstOf μ a = nI j ∧ bt a j = true := by
  have key : ∀ m, m ≤ cM μ → (lpF (fX7_firstOf_L4 μ a) (-1) m = -1 ∧ ∀ t, t < m → bt a t = false) ∨ ∃ j, j < m ∧ lpF (fX7_firstOf_L4 μ a) (-1) m = nI j ∧ bt a j = true := by
    intro m
    induction m with
    | zero => intro _; exact Or.inl ⟨rfl, fun t ht => by omega⟩
    | succ m ih =>
      intro hm
      rw [lpF_1]
      have hnI : ∀ j, j < 20 → ¬ nI j = -1 := fun j hj q => by
        have := congrArg Int32.toInt q
        rw [nI_toInt (by omega), show (-1 : Int32).toInt = -1 from by decide] at this
        omega
      unfold fX7_firstOf_L4
      by_cases c : bt a m = true
      · rw [if_pos ((bt_ask1 (by omega)).mpr c)]
        rcases ih (by omega) with ⟨i1, i2⟩ | ⟨j, j1, j2, j3⟩
        · unfold fX7_firstOf_L4 at i1
          rw [i1, if_pos rfl]
          exact Or.inr ⟨m, by omega, rfl, c⟩
        · unfold fX7_firstOf_L4 at j2
          rw [j2, if_neg (hnI j (by omega))]
          split
          · exact Or.inr ⟨m, by omega, rfl, c⟩
          · exact Or.inr ⟨j, by omega, rfl, j3⟩
      · rw [if_neg (fun q => c ((bt_ask1 (by omega)).mp q))]
        rcases ih (by omega) with ⟨i1, i2⟩ | ⟨j, j1, j2, j3⟩
        · unfold fX7_firstOf_L4 at i1
          refine Or.inl ⟨i1, fun t ht => ?_⟩
          by_cases e : t = m
          · rw [e]; exact tf_of c
          · exact i2 t (by omega)
        · unfold fX7_firstOf_L4 at j2
          exact Or.inr ⟨j, by omega, j2, j3⟩
  exact key _ (Nat.le_refl _)
def free9 (μ : BS) (a : Int32) (t : Nat) : Bool := bt a t && decide ((fX7_of μ t 9) &&& a = 0)
theorem freeOf_bt {β μ : BS} (h : AL β μ) (a : Int32) {j : Nat} (hj : j < 32) : bt (fX1_freeOf β a) j = (decide (j < cM μ) && free9 μ a j) := by
  have hn := h.n20
  unfold fX1_freeOf
  rw [h.n]
  refine lpF_set (by omega) (fun i x hi => ?_) hj
  unfold fX1_freeOf_L4 free9
  rw [isIn_bt (by omega), h.nd hi]
  by_cases c : bt a i = true
  · rw [if_pos c, c, Bool.true_and]
    by_cases c2 : (fX7_of μ i 9) &&& a = 0
    · rw [if_pos c2, if_pos (by simpa using c2)]; rfl
    · rw [if_neg c2, if_neg (by simpa using c2)]
  · rw [if_neg c, tf_of c, if_neg (by simp)]
theorem L16_bt {μ : BS} (hn : cM μ ≤ 20) {d i : Nat} {x : Int32 × BS} (hx : eqX 7 μ x.2) {j : Nat} (hj : j < 32) : bt (lpF (fX7_tellsOrder_L16 μ d i x) 0 (cM μ)) j = (decide (j < cM μ) && free9 μ x.1 j) := by
  refine lpF_set (by omega) (fun k y hk => ?_) hj
  unfold fX7_tellsOrder_L16 free9
  have e : fX7_of x.2 k 9 = fX7_of μ k 9 := by unfold fX7_of; rw [hx.2 0 (by decide)]
  rw [e]
  by_cases c : bt x.1 k = true
  · rw [if_pos ((bt_ask1 (by omega)).mpr c), c, Bool.true_and]
    by_cases c2 : (fX7_of μ k 9) &&& x.1 = 0
    · rw [if_pos c2, if_pos (by simpa using c2)]; rfl
    · rw [if_neg c2, if_neg (by simpa using c2), or_z]
  · rw [if_neg (fun q => c ((bt_ask1 (by omega)).mp q)), tf_of c, if_neg (by simp), or_z]
theorem firstOf_x7 {μ ν : BS} (h : eqX 7 μ ν) (a : Int32) : fX7_firstOf ν a = fX7_firstOf μ a := by
  have e : ∀ t w, fX7_of ν t w = fX7_of μ t w := fun t w => by unfold fX7_of; rw [h.2 0 (by decide)]
  have e2 : cM ν = cM μ := by unfold cM; rw [h.2 0 (by decide)]
  unfold fX7_firstOf
  rw [e2]
  refine lpF_congr _ fun i x hi => ?_
  unfold fX7_firstOf_L4 fX7_isAhead
  simp only [e]
theorem pcn_rm {a : Int32} {i n : Nat} (hi : i < n) (hn : n ≤ 32) (h : bt a i = true) : pcn (bt (a &&& ((s1 i) ^^^ (-1)))) n + 1 = pcn (bt a) n := by
  have hb : ∀ j, j < n → bt (a &&& ((s1 i) ^^^ (-1))) j = (bt a j && !decide (j = i)) := fun j hj => by rw [bt_and, bt_not _ (by omega), bt_s1 (by omega) (by omega)]
  rw [pcn_congr n hb]
  clear hb
  induction n with
  | zero => omega
  | succ n ih =>
    rw [pcn, pcn]
    by_cases e : i = n
    · subst e
      rw [h]
      have : pcn (fun j => bt a j && !decide (j = i)) i = pcn (bt a) i := pcn_congr i fun j hj => by
        have : ¬ j = i := by omega
        simp [this]
      rw [this]
      simp
    · have e2 : ¬ n = i := fun q => e q.symm
      have := ih (by omega) (by omega)
      simp [e2]
      omega
theorem ord2_key {β μ γ : BS} (h : AL β μ) : ∀ (d i : Nat) (x y : Int32 × BS), d + i = 21 → x.1 = y.1 → (∀ j, cM μ ≤ j → j < 32 → bt x.1 j = false) → eqX 7 μ y.2 → pcn (bt x.1) 20 + i ≤ 20 → (∀ k, k < i → x.2.2 3 k = y.2.2 7 k) → fX7_tellsOrder_R7_ok μ d i y = true ∧ (fX1_fillClosingOrder_R7 γ β d i x).1 = (fX7_tellsOrder_R7 μ d i y).1 ∧ ∀ k, k < (fX7_tellsOrder_R7 μ d i y).1.toNatClampNeg → (fX1_fillClosingOrder_R7 γ β d i x).2.2 3 k = (fX7_tellsOrder_R7 μ d i y).2.2 7 k := by
  have hn := h.n20
  intro d
  induction d with
  | zero => intro i x y hd h1 h2 h3 h4; omega
  | succ d ih =>
    intro i x y hd h1 h2 h3 h4 h5
    rw [fX7_tellsOrder_R7_ok, fX7_tellsOrder_R7, fX1_fillClosingOrder_R7]
    by_cases c : y.1 = 0
    · rw [if_pos c, if_pos c]
      refine ⟨rfl, ?_⟩
      have hfst : fX1_firstOf β (fX1_freeOf β x.1) = -1 := by
        rw [(firstOf_eq h _).1]
        rcases first_spec hn (fX1_freeOf β x.1) with q | ⟨j, j1, j2, j3⟩
        · exact q.1
        · rw [freeOf_bt h _ (by omega), h1, c] at j3
          unfold free9 at j3
          rw [bt_0] at j3
          simp at j3
      by_cases c2 : (20 : Int32) ≤ nI i
      · rw [if_pos c2]
        have hi : i = 20 := by
          have := (nI_leI (a := 20) (b := i) (by omega) (by omega)).mp c2
          omega
        subst hi
        exact ⟨rfl, fun k hk => h5 k (by rw [nI_clamp (by omega)] at hk; exact hk)⟩
      · rw [if_neg c2, if_pos hfst]
        exact ⟨rfl, fun k hk => h5 k (by rw [nI_clamp (by omega)] at hk; exact hk)⟩
    · rw [if_neg c, if_neg c]
      -- something is left
      obtain ⟨t0, t1, t2⟩ := nz_bt.mp c
      have t3 : t0 < cM μ := by
        rcases Nat.lt_or_ge t0 (cM μ) with q | q
        · exact q
        · rw [← h1, h2 t0 q t1] at t2; cases t2
      obtain ⟨r, hr⟩ := h.b.2.2.2.2.2.1
      obtain ⟨t, ⟨b1, b2⟩, b3⟩ := min_rank (r := r) (p := fun t => t < cM μ ∧ bt y.1 t = true) (r t0 + 1) ⟨t0, ⟨t3, t2⟩, by omega⟩
      have hfree : free9 μ y.1 t = true := by
        unfold free9
        rw [b2, Bool.true_and, decide_eq_true_eq]
        refine bt_z.mpr fun u hu => tf_of fun w => ?_
        rw [bt_and, Bool.and_eq_true] at w
        have e1 : u < cM μ := by
          rcases Nat.lt_or_ge u (cM μ) with q | q
          · exact q
          · rw [h.nb b1 q hu] at w; cases w.1
        have := hr t u ⟨b1, hu, w.1⟩
        have := b3 u ⟨e1, w.2⟩
        omega
      have hset : fX1_freeOf β x.1 = lpF (fX7_tellsOrder_L16 μ d i y) 0 (cM μ) := bt_ext fun j hj => by rw [freeOf_bt h _ hj, L16_bt hn h3 hj, h1]
      have hfo : fX1_firstOf β (fX1_freeOf β x.1) = fX7_firstOf y.2 (lpF (fX7_tellsOrder_L16 μ d i y) 0 (cM μ)) := by rw [(firstOf_eq h _).1, firstOf_x7 h3, hset]
      rcases first_spec hn (lpF (fX7_tellsOrder_L16 μ d i y) 0 (cM μ)) with q | ⟨j, j1, j2, j3⟩
      · have := q.2 t b1
        rw [L16_bt hn h3 (by omega), hfree] at this
        simp at this
        omega
      · have hj2 : fX7_firstOf y.2 (lpF (fX7_tellsOrder_L16 μ d i y) 0 (cM μ)) = nI j := by rw [firstOf_x7 h3]; exact j2
        rw [L16_bt hn h3 (by omega)] at j3
        have j4 : bt y.1 j = true := by
          unfold free9 at j3
          simp only [Bool.and_eq_true] at j3
          exact j3.2.1
        have hp := pcn_rm (a := y.1) (i := j) (n := 20) (by omega) (by omega) j4
        rw [h1] at h4
        rw [if_neg (show ¬ (20 : Int32) ≤ nI i from fun q => by
          have := (nI_leI (a := 20) (b := i) (by omega) (by omega)).mp q
          omega), hfo, hj2, if_neg (fun q => by
          have := congrArg Int32.toInt q
          rw [nI_toInt (by omega), show (-1 : Int32).toInt = -1 from by decide] at this
          omega)]
        have e7 : (sE y.2 7 i (nI j)).2 7 i = nI j := pk_us
        rw [e7]
        refine ih (i + 1) _ _ (by omega) ?_ (fun v g1 g2 => ?_) (eqX_e h3) ?_ (fun k hk => ?_)
        · show x.1 &&& ((s1 j) ^^^ (-1)) = y.1 &&& ((s1 j) ^^^ (-1))
          rw [h1]
        · show bt (x.1 &&& ((s1 j) ^^^ (-1))) v = false
          rw [bt_and, h2 v g1 g2, Bool.false_and]
        · show pcn (bt (x.1 &&& ((s1 j) ^^^ (-1)))) 20 + (i + 1) ≤ 20
          rw [h1]
          omega
        · show upd (x.2.2 3) i (nI j) k = upd (y.2.2 7) i (nI j) k
          unfold upd
          by_cases e : k = i
          · rw [if_pos e, if_pos e]
          · rw [if_neg e, if_neg e]; exact h5 k (by omega)
theorem order_eq {β μ γ : BS} (h : AL β μ) : fX7_tellsOrder_R7_ok μ 21 0 (fX7_left μ, μ) = true ∧ (fX1_fillClosingOrder γ β).1 = (fX7_tellsOrder μ).1 ∧ ∀ k, k < (fX7_tellsOrder μ).1.toNatClampNeg → (fX1_fillClosingOrder γ β).2.2 3 k = (fX7_tellsOrder μ).2.2 7 k := by
  have hn := h.n20
  exact ord2_key h 21 0 (fX0_unfinishedSet β, γ) (fX7_left μ, μ) rfl (unfSet_eq h) (fun j g1 g2 => by
    show bt (fX0_unfinishedSet β) j = false
    rw [unfSet_eq h, bt_left hn g2, dec_ge g1]) (eqX_refl 7 μ) (pcn_le _ _) (fun k hk => by omega)
theorem gA_of {β μ : BS} (h : AL β μ) : gA (μ.2 0) := fun ν e => by
  have h' : AL β ν := by
    unfold AL at *
    rw [e]
    exact h
  exact ⟨fun b => (tellsChains_CH h' b).1, (order_eq (γ := β) h').1⟩
