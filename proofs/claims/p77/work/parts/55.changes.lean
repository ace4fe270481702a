theorem tk_upd {f : Nat → Int32} {t w t' w' : Nat} {v : Int32} (hw : w < 10) (hw' : w' < 10) : tk (upd f ((13 + (10 * t)) + w) v) t' w' = if t' = t ∧ w' = w then v else tk f t' w' := by
  unfold tk
  by_cases e : t' = t ∧ w' = w
  · obtain ⟨rfl, rfl⟩ := e
    rw [pk_us, if_pos ⟨rfl, rfl⟩]
  · rw [pk_un (by omega), if_neg e]
theorem tk_low {f : Nat → Int32} {i t w : Nat} {v : Int32} (hi : i < 13) : tk (upd f i v) t w = tk f t w := by
  unfold tk
  exact pk_un (by omega)
theorem upd_low {f : Nat → Int32} {t w k : Nat} {v : Int32} (hk : k < 13) : upd f ((13 + (10 * t)) + w) v k = f k := pk_un (by omega)
/-- what a ticket counts for an owner's load -/
def lc (f : Nat → Int32) (o t : Nat) : Int32 := if tk f t 3 = nI o + 1 then (if 3 ≤ tk f t 2 then 0 else tk f t 0) else 0
def SU (c : Nat → Int32) (n : Nat) : Int32 := lpF (fun i x => x + c i) 0 n
theorem load_SU (f : Nat → Int32) (o : Nat) : fX7_load (rw9 f) (nI o) = SU (lc f o) (nT f) := lpF_congr _ fun i x hi => by
  unfold fX7_load_L4 lc fX7_isLeft
  show (if tk f i 3 = nI o + 1 then (if (if 3 ≤ tk f i 2 then false else true) = true then x + tk f i 0 else x + 0) else x + 0) = _
  by_cases c : tk f i 3 = nI o + 1
  · rw [if_pos c, if_pos c]
    by_cases c2 : 3 ≤ tk f i 2
    · rw [if_pos c2, if_pos c2, if_neg (by decide)]
    · rw [if_neg c2, if_neg c2, if_pos rfl]
  · rw [if_neg c, if_neg c]
theorem i32_sub_add (a b c : Int32) : a + b - b + c = a + c := by
  have : a + b - b = a := by simp
  rw [this]
theorem SU_upd {c c' : Nat → Int32} {t : Nat} : ∀ n, t < n → (∀ i, i < n → i ≠ t → c' i = c i) → SU c' n = SU c n - c t + c' t
  | 0, h, _ => by omega
  | n + 1, h, hc => by
    have e1 : SU c' (n + 1) = SU c' n + c' n := rfl
    have e2 : SU c (n + 1) = SU c n + c n := rfl
    rw [e1, e2]
    by_cases e : t = n
    · subst e
      have : SU c' t = SU c t := lpF_congr t fun i x hi => by rw [hc i (by omega) (by omega)]
      rw [this, i32_sub_add]
    · rw [SU_upd n (by omega) (fun i hi => hc i (by omega)), hc n (by omega) (fun q => e q.symm)]
      rw [Int32.sub_eq_add_neg, Int32.sub_eq_add_neg]
      ac_rfl
theorem SU_same {c c' : Nat → Int32} (n : Nat) (hc : ∀ i, i < n → c' i = c i) : SU c' n = SU c n := lpF_congr n fun i x hi => by rw [hc i hi]
/-- one ticket's fields change -/
theorem RB_lay {β β' : BS} {f f' : Nat → Int32} {t : Nat} (h : RB β f) (hn : nT f ≤ 20) (ht : t < nT f) (h0 : f' 0 = f 0) (h1 : f' 1 = f 1) (hlow : ∀ k, 4 ≤ k → k < 13 → f' k = f k) (hnum : β'.1 0 = f' 0 ∧ β'.1 1 = f' 1 ∧ β'.1 2 = f' 2 ∧ β'.1 3 = f' 3) (hoth : ∀ t', t' ≠ t → ∀ w, w < 10 → tk f' t' w = tk f t' w) (hβo : ∀ r, r < 10 → ∀ t', t' ≠ t → β'.2 r t' = β.2 r t') (h10 : β'.2 10 = β.2 10) (h12 : β'.2 12 = β.2 12) (hRT : RT β' f' t) (hWT : WT f' t) (hA : Acy f') (hL : ∀ o, o < 5 → β'.2 11 o = β.2 11 o - lc f o t + lc f' o t) : RB β' f' := by
  obtain ⟨-, b1, b2, b3, b4, -, b6, b7⟩ := h
  have en : nT f' = nT f := by unfold nT; rw [h0]
  have ed : dyT f' = dyT f := by unfold dyT; rw [h1]
  refine ⟨hnum, fun o ho => by rw [h10, hlow (4 + o) (by omega) (by omega)]; exact b1 o ho, fun m hm => by rw [h12, hlow (9 + m) (by omega) (by omega)]; exact b2 m hm, fun s hs => ?_, fun s hs hs2 w hw => ?_, hA, fun o ho => ?_, by rw [h1, ed]; exact b7⟩
  · rw [en] at hs
    by_cases e : s = t
    · subst e; exact ⟨hRT, hWT⟩
    · obtain ⟨⟨r0, r1, r2, r3, r4, r5, r6, r7, r8, r9⟩, w1, w2, w3, w4⟩ := b3 s hs
      refine ⟨⟨?_, ?_, ?_, ?_, ?_, ?_, ?_, ?_, ?_, ?_⟩, ?_, ?_, ?_, ?_⟩
      · rw [hβo 0 (by decide) s e, hoth s e 2 (by decide)]; exact r0
      · rw [hβo 1 (by decide) s e, hoth s e 0 (by decide)]; exact r1
      · rw [hβo 2 (by decide) s e, hoth s e 1 (by decide)]; exact r2
      · rw [hβo 3 (by decide) s e, hoth s e 3 (by decide)]; exact r3
      · rw [hβo 4 (by decide) s e, hoth s e 4 (by decide)]; exact r4
      · rw [hβo 5 (by decide) s e, hoth s e 5 (by decide)]; exact r5
      · rw [hβo 6 (by decide) s e, hoth s e 6 (by decide), hoth s e 2 (by decide)]; exact r6
      · rw [hβo 7 (by decide) s e, hoth s e 7 (by decide)]; exact r7
      · rw [hβo 8 (by decide) s e, hoth s e 8 (by decide)]; exact r8
      · rw [hβo 9 (by decide) s e, hoth s e 9 (by decide)]; exact r9
      · rw [hoth s e 2 (by decide)]; exact w1
      · rw [hoth s e 0 (by decide)]; exact w2
      · rw [hoth s e 7 (by decide), ed]; exact w3
      · rw [hoth s e 9 (by decide), en]; exact w4
  · rw [en] at hs
    rw [hoth s (by omega) w hw]
    exact b4 s hs hs2 w hw
  · rw [hL o ho, b6 o ho, load_SU, load_SU, en]
    refine (SU_upd (nT f) ht fun i hi hne => ?_).symm
    unfold lc
    rw [hoth i hne 3 (by decide), hoth i hne 2 (by decide), hoth i hne 0 (by decide)]
/-- the needs are what they were -/
theorem Acy_same {f f' : Nat → Int32} (h0 : f' 0 = f 0) (h : ∀ t, t < nT f → tk f' t 9 = tk f t 9) (ha : Acy f) : Acy f' := by
  obtain ⟨r, hr⟩ := ha
  refine ⟨r, fun a b q => hr a b ?_⟩
  have en : nT f' = nT f := by unfold nT; rw [h0]
  obtain ⟨q1, q2, q3⟩ := q
  rw [en] at q1
  exact ⟨q1, q2, by rw [← h a q1]; exact q3⟩
theorem addLoad_1 (β : BS) (o z : Int32) : (fX0_addLoad β o z).1 = β.1 := by unfold fX0_addLoad; split <;> rfl
theorem addLoad_r {β : BS} {o z : Int32} {r : Nat} (hr : r ≠ 11) : (fX0_addLoad β o z).2 r = β.2 r := by
  unfold fX0_addLoad
  split
  · rfl
  · exact if_neg hr
theorem addLoad_11 {β : BS} {x z : Int32} (hx : okO x) {o : Nat} (ho : o < 5) : (fX0_addLoad β x z).2 11 o = if x = nI o then β.2 11 o + z else β.2 11 o := by
  unfold fX0_addLoad
  have hm : ∀ j, j < 5 → ¬ nI j = -1 := fun j hj q => by
    have := congrArg Int32.toInt q
    rw [nI_toInt (by omega), show (-1 : Int32).toInt = -1 from by decide] at this
    omega
  rcases hx with rfl | ⟨j, hj, rfl⟩
  · rw [if_pos rfl, if_neg (fun q => hm o ho q.symm)]
  · rw [if_neg (hm j hj), nI_clamp (by omega)]
    show upd (β.2 11) j (β.2 11 j + z) o = _
    unfold upd
    by_cases e : o = j
    · subst e; rw [if_pos rfl, if_pos rfl]
    · rw [if_neg e, if_neg (fun q => e ((nI_eq (by omega) (by omega)).mp q).symm)]
theorem lc_own {β μ : BS} (h : AL β μ) {t o : Nat} (ht : t < cM μ) : lc (μ.2 0) o t = if β.2 3 t = nI o then (if fX7_isLeft μ t = true then fX7_of μ t 0 else 0) else 0 := by
  unfold lc
  show (if fX7_of μ t 3 = nI o + 1 then (if 3 ≤ fX7_of μ t 2 then 0 else fX7_of μ t 0) else 0) = _
  by_cases c : β.2 3 t = nI o
  · rw [if_pos ((h.owI ht _).mpr c), if_pos c]
    unfold fX7_isLeft
    by_cases c2 : 3 ≤ fX7_of μ t 2
    · rw [if_pos c2, if_pos c2, if_neg (by decide)]
    · rw [if_neg c2, if_neg c2, if_pos rfl]
  · rw [if_neg (fun q => c ((h.owI ht _).mp q)), if_neg c]
theorem i_self (x y : Int32) : x - y + y = x := by simp
theorem sE_r {β : BS} {k i r : Nat} {v : Int32} (hr : r ≠ k) : (sE β k i v).2 r = β.2 r := if_neg hr
theorem sE_o {β : BS} {k i j : Nat} {v : Int32} (hj : j ≠ i) : (sE β k i v).2 k j = β.2 k j := (congrFun (show (sE β k i v).2 k = upd (β.2 k) i v from if_pos rfl) j).trans (pk_un hj)
theorem sE_s {β : BS} {k i : Nat} {v : Int32} : (sE β k i v).2 k i = v := (congrFun (show (sE β k i v).2 k = upd (β.2 k) i v from if_pos rfl) i).trans pk_us
theorem sE_1 {β : BS} {k i : Nat} {v : Int32} : (sE β k i v).1 = β.1 := rfl
theorem sI_r {β : BS} {k r : Nat} {v : Int32} : (sI β k v).2 r = β.2 r := rfl
theorem sI_a {β : BS} {k r j : Nat} {v : Int32} : (sI β k v).2 r j = β.2 r j := rfl
theorem sE0_low {μ : BS} {i k : Nat} {v : Int32} (hk : k ≠ i) : (sE μ 0 i v).2 0 k = μ.2 0 k := sE_o hk
theorem sE0_s {μ : BS} {i : Nat} {v : Int32} : (sE μ 0 i v).2 0 i = v := sE_s
theorem sE0_tk {μ : BS} {i t w : Nat} {v : Int32} (hi : i < 13) : tk ((sE μ 0 i v).2 0) t w = tk (μ.2 0) t w := tk_low hi
theorem num_of {β β' : BS} {f f' : Nat → Int32} (h : β.1 0 = f 0 ∧ β.1 1 = f 1 ∧ β.1 2 = f 2 ∧ β.1 3 = f 3) (hb : β'.1 = β.1) (hf : ∀ k, k < 4 → f' k = f k) : β'.1 0 = f' 0 ∧ β'.1 1 = f' 1 ∧ β'.1 2 = f' 2 ∧ β'.1 3 = f' 3 := by
  rw [hb, hf 0 (by decide), hf 1 (by decide), hf 2 (by decide), hf 3 (by decide)]
  exact h
theorem sE_any {β : BS} {k i r j : Nat} {v : Int32} (hj : j ≠ i) : (sE β k i v).2 r j = β.2 r j := by
  by_cases e : r = k
  · subst e; exact sE_o hj
  · rw [sE_r e]
/-- the same row but a field of one ticket -/
theorem lay_tk {μ : BS} {t w t' w' : Nat} {v : Int32} (hw : w < 10) (hw' : w' < 10) : tk ((fX7_lay μ t w v).2 0) t' w' = if t' = t ∧ w' = w then v else tk (μ.2 0) t' w' := tk_upd hw hw'
theorem lay_low {μ : BS} {t w k : Nat} {v : Int32} (hk : k < 13) : (fX7_lay μ t w v).2 0 k = μ.2 0 k := upd_low hk
theorem lay_o {μ : BS} {t w t' : Nat} {v : Int32} (hw : w < 10) (ht : t' ≠ t) {w' : Nat} (hw' : w' < 10) : tk ((fX7_lay μ t w v).2 0) t' w' = tk (μ.2 0) t' w' := by rw [lay_tk hw hw', if_neg (fun q => ht q.1)]
theorem lay_w {μ : BS} {t w w' : Nat} {v : Int32} (hw : w < 10) (hw' : w' < 10) (hne : w' ≠ w) : tk ((fX7_lay μ t w v).2 0) t w' = tk (μ.2 0) t w' := by rw [lay_tk hw hw', if_neg (fun q => hne q.2)]
theorem lay_s {μ : BS} {t w : Nat} {v : Int32} (hw : w < 10) : tk ((fX7_lay μ t w v).2 0) t w = v := by rw [lay_tk hw hw, if_pos ⟨rfl, rfl⟩]
theorem give_RB {β μ : BS} (h : AL β μ) {t : Nat} (ht : t < cM μ) (hl : fX7_isLeft μ t = true) {u : Nat} (hu : u < 5) (hne : ¬ β.2 3 t = nI u) : RB (fX0_addLoad (sE (fX0_addLoad β (β.2 3 t) (-β.2 1 t)) 3 t (nI u)) (nI u) (β.2 1 t)) ((fX7_lay μ t 3 (nI u + 1)).2 0) := by
  obtain ⟨r0, r1, r2, r3, r4, r5, r6, r7, r8, r9⟩ := h.rt ht
  obtain ⟨w1, w2, w3, w4⟩ := h.wt ht
  refine RB_lay h.b h.n20 ht (lay_low (by decide)) (lay_low (by decide)) (fun k _ hk => (lay_low hk)) ?_ (fun t' e w hw => (lay_o (by decide) e hw)) (fun r hr t' e => (Eq.trans (congrFun (addLoad_r (by omega)) _) (Eq.trans (sE_any e) (congrFun (addLoad_r (by omega)) _)))) (Eq.trans (addLoad_r (by decide)) (Eq.trans (sE_r (by decide)) (addLoad_r (by decide)))) (Eq.trans (addLoad_r (by decide)) (Eq.trans (sE_r (by decide)) (addLoad_r (by decide)))) ⟨?_, ?_, ?_, ?_, ?_, ?_, ?_, ?_, ?_, ?_⟩ ⟨?_, ?_, ?_, ?_⟩ ?_ (fun o ho => ?_)
  · exact num_of h.b.1 (Eq.trans (addLoad_1 _ _ _) (Eq.trans sE_1 (addLoad_1 _ _ _))) (fun k hk9 => (fun hk : k < 13 => (lay_low hk)) (Nat.lt_trans hk9 (by decide)))
  · exact (congrFun (Eq.trans (addLoad_r (by decide)) (Eq.trans (sE_r (by decide)) (addLoad_r (by decide)))) t).trans (r0.trans ((lay_w (w' := 2) (by decide) (by decide) (by decide))).symm)
  · exact (congrFun (Eq.trans (addLoad_r (by decide)) (Eq.trans (sE_r (by decide)) (addLoad_r (by decide)))) t).trans (r1.trans ((lay_w (w' := 0) (by decide) (by decide) (by decide))).symm)
  · exact (congrFun (Eq.trans (addLoad_r (by decide)) (Eq.trans (sE_r (by decide)) (addLoad_r (by decide)))) t).trans (r2.trans ((lay_w (w' := 1) (by decide) (by decide) (by decide))).symm)
  · exact (congrArg (· + 1) ((congrFun (addLoad_r (by decide)) t).trans sE_s)).trans (lay_s (by decide)).symm
  · exact (congrArg (· + 1) (congrFun (Eq.trans (addLoad_r (by decide)) (Eq.trans (sE_r (by decide)) (addLoad_r (by decide)))) t)).trans (r4.trans ((lay_w (w' := 4) (by decide) (by decide) (by decide))).symm)
  · exact (congrFun (Eq.trans (addLoad_r (by decide)) (Eq.trans (sE_r (by decide)) (addLoad_r (by decide)))) t).trans (r5.trans ((lay_w (w' := 5) (by decide) (by decide) (by decide))).symm)
  · exact fun q3 => (congrFun (Eq.trans (addLoad_r (by decide)) (Eq.trans (sE_r (by decide)) (addLoad_r (by decide)))) t).trans ((r6 (((lay_w (w' := 2) (by decide) (by decide) (by decide))).symm.trans q3)).trans ((lay_w (w' := 6) (by decide) (by decide) (by decide))).symm)
  · exact (congrFun (Eq.trans (addLoad_r (by decide)) (Eq.trans (sE_r (by decide)) (addLoad_r (by decide)))) t).trans (r7.trans ((lay_w (w' := 7) (by decide) (by decide) (by decide))).symm)
  · exact (congrFun (Eq.trans (addLoad_r (by decide)) (Eq.trans (sE_r (by decide)) (addLoad_r (by decide)))) t).trans (r8.trans ((lay_w (w' := 8) (by decide) (by decide) (by decide))).symm)
  · exact (congrFun (Eq.trans (addLoad_r (by decide)) (Eq.trans (sE_r (by decide)) (addLoad_r (by decide)))) t).trans (r9.trans ((lay_w (w' := 9) (by decide) (by decide) (by decide))).symm)
  · rw [(lay_w (w' := 2) (by decide) (by decide) (by decide))]; exact w1
  · rw [(lay_w (w' := 0) (by decide) (by decide) (by decide))]; exact w2
  · rw [(lay_w (w' := 7) (by decide) (by decide) (by decide)), (show dyT ((fX7_lay μ t 3 (nI u + 1)).2 0) = dyT (μ.2 0) from congrArg Int32.toNatClampNeg (lay_low (by decide)))]; exact w3
  · rw [(lay_w (w' := 9) (by decide) (by decide) (by decide)), (show nT ((fX7_lay μ t 3 (nI u + 1)).2 0) = nT (μ.2 0) from congrArg Int32.toNatClampNeg (lay_low (by decide)))]; exact w4
  · refine Acy_same (lay_low (by decide)) (fun s hs => ?_) h.b.2.2.2.2.2.1
    by_cases e : s = t
    · subst e; exact (lay_w (w' := 9) (by decide) (by decide) (by decide))
    · have hw : 9 < 10 := by decide
      exact (lay_o (by decide) e hw)
  · have hl2 : ¬ 3 ≤ fX7_of μ t 2 := fun q => by unfold fX7_isLeft at hl; rw [if_pos q] at hl; cases hl
    have e : lc ((fX7_lay μ t 3 (nI u + 1)).2 0) o t = if u = o then fX7_of μ t 0 else 0 := by
      unfold lc
      rw [lay_s (by decide), lay_w (by decide) (by decide) (by decide), lay_w (by decide) (by decide) (by decide)]
      show (if nI u + 1 = nI o + 1 then (if 3 ≤ fX7_of μ t 2 then 0 else fX7_of μ t 0) else 0) = _
      rw [if_neg hl2]
      by_cases c : u = o
      · subst c; rw [if_pos rfl, if_pos rfl]
      · rw [if_neg (fun q => c ((nI_eq (by omega) (by omega)).mp (i32_add_r.mp q))), if_neg c]
    rw [e, addLoad_11 (okO_n hu) ho, sE_r (by decide), addLoad_11 (h.1.2.2 t (by have := h.n20; omega)) ho, lc_own h ht, hl, if_pos rfl, h.pt ht]
    by_cases c : u = o
    · subst c
      rw [if_pos rfl, if_neg hne, if_neg hne, if_pos rfl, Int32.sub_zero]
    · rw [if_neg (fun q => c ((nI_eq (by omega) (by omega)).mp q)), if_neg c, Int32.add_zero]
      by_cases c2 : β.2 3 t = nI o
      · rw [if_pos c2, if_pos c2, Int32.sub_eq_add_neg]
      · rw [if_neg c2, if_neg c2, Int32.sub_zero]
theorem plan_RB {β μ : BS} (h : AL β μ) {t : Nat} (ht : t < cM μ) (v : Int32) : RB (sE β 4 t v) ((fX7_lay μ t 4 (v + 1)).2 0) := by
  obtain ⟨r0, r1, r2, r3, r4, r5, r6, r7, r8, r9⟩ := h.rt ht
  obtain ⟨w1, w2, w3, w4⟩ := h.wt ht
  refine RB_lay h.b h.n20 ht (lay_low (by decide)) (lay_low (by decide)) (fun k _ hk => (lay_low hk)) ?_ (fun t' e w hw => (lay_o (by decide) e hw)) (fun r hr t' e => (sE_any e)) (sE_r (by decide)) (sE_r (by decide)) ⟨?_, ?_, ?_, ?_, ?_, ?_, ?_, ?_, ?_, ?_⟩ ⟨?_, ?_, ?_, ?_⟩ ?_ (fun o ho => ?_)
  · exact num_of h.b.1 sE_1 (fun k hk9 => (fun hk : k < 13 => (lay_low hk)) (Nat.lt_trans hk9 (by decide)))
  · exact (congrFun (sE_r (by decide)) t).trans (r0.trans ((lay_w (w' := 2) (by decide) (by decide) (by decide))).symm)
  · exact (congrFun (sE_r (by decide)) t).trans (r1.trans ((lay_w (w' := 0) (by decide) (by decide) (by decide))).symm)
  · exact (congrFun (sE_r (by decide)) t).trans (r2.trans ((lay_w (w' := 1) (by decide) (by decide) (by decide))).symm)
  · exact (congrArg (· + 1) (congrFun (sE_r (by decide)) t)).trans (r3.trans ((lay_w (w' := 3) (by decide) (by decide) (by decide))).symm)
  · rw [sE_s, lay_s (by decide)]
  · exact (congrFun (sE_r (by decide)) t).trans (r5.trans ((lay_w (w' := 5) (by decide) (by decide) (by decide))).symm)
  · exact fun q3 => (congrFun (sE_r (by decide)) t).trans ((r6 (((lay_w (w' := 2) (by decide) (by decide) (by decide))).symm.trans q3)).trans ((lay_w (w' := 6) (by decide) (by decide) (by decide))).symm)
  · exact (congrFun (sE_r (by decide)) t).trans (r7.trans ((lay_w (w' := 7) (by decide) (by decide) (by decide))).symm)
  · exact (congrFun (sE_r (by decide)) t).trans (r8.trans ((lay_w (w' := 8) (by decide) (by decide) (by decide))).symm)
  · exact (congrFun (sE_r (by decide)) t).trans (r9.trans ((lay_w (w' := 9) (by decide) (by decide) (by decide))).symm)
  · rw [(lay_w (w' := 2) (by decide) (by decide) (by decide))]; exact w1
  · rw [(lay_w (w' := 0) (by decide) (by decide) (by decide))]; exact w2
  · rw [(lay_w (w' := 7) (by decide) (by decide) (by decide)), (show dyT ((fX7_lay μ t 4 (v + 1)).2 0) = dyT (μ.2 0) from congrArg Int32.toNatClampNeg (lay_low (by decide)))]; exact w3
  · rw [(lay_w (w' := 9) (by decide) (by decide) (by decide)), (show nT ((fX7_lay μ t 4 (v + 1)).2 0) = nT (μ.2 0) from congrArg Int32.toNatClampNeg (lay_low (by decide)))]; exact w4
  · refine Acy_same (lay_low (by decide)) (fun s hs => ?_) h.b.2.2.2.2.2.1
    by_cases e : s = t
    · subst e; exact (lay_w (w' := 9) (by decide) (by decide) (by decide))
    · have hw : 9 < 10 := by decide
      exact (lay_o (by decide) e hw)
  · have e : lc ((fX7_lay μ t 4 (v + 1)).2 0) o t = lc (μ.2 0) o t := by unfold lc; rw [(lay_w (w' := 3) (by decide) (by decide) (by decide)), (lay_w (w' := 2) (by decide) (by decide) (by decide)), (lay_w (w' := 0) (by decide) (by decide) (by decide))]
    rw [e, i_self, (sE_r (by decide))]
theorem state1_RB {β μ : BS} (h : AL β μ) {t : Nat} (ht : t < cM μ) (hl : fX7_isLeft μ t = true) : RB (sE β 0 t 1) ((fX7_lay μ t 2 1).2 0) := by
  obtain ⟨r0, r1, r2, r3, r4, r5, r6, r7, r8, r9⟩ := h.rt ht
  obtain ⟨w1, w2, w3, w4⟩ := h.wt ht
  refine RB_lay h.b h.n20 ht (lay_low (by decide)) (lay_low (by decide)) (fun k _ hk => (lay_low hk)) ?_ (fun t' e w hw => (lay_o (by decide) e hw)) (fun r hr t' e => (sE_any e)) (sE_r (by decide)) (sE_r (by decide)) ⟨?_, ?_, ?_, ?_, ?_, ?_, ?_, ?_, ?_, ?_⟩ ⟨?_, ?_, ?_, ?_⟩ ?_ (fun o ho => ?_)
  · exact num_of h.b.1 sE_1 (fun k hk9 => (fun hk : k < 13 => (lay_low hk)) (Nat.lt_trans hk9 (by decide)))
  · rw [sE_s, lay_s (by decide)]
  · exact (congrFun (sE_r (by decide)) t).trans (r1.trans ((lay_w (w' := 0) (by decide) (by decide) (by decide))).symm)
  · exact (congrFun (sE_r (by decide)) t).trans (r2.trans ((lay_w (w' := 1) (by decide) (by decide) (by decide))).symm)
  · exact (congrArg (· + 1) (congrFun (sE_r (by decide)) t)).trans (r3.trans ((lay_w (w' := 3) (by decide) (by decide) (by decide))).symm)
  · exact (congrArg (· + 1) (congrFun (sE_r (by decide)) t)).trans (r4.trans ((lay_w (w' := 4) (by decide) (by decide) (by decide))).symm)
  · exact (congrFun (sE_r (by decide)) t).trans (r5.trans ((lay_w (w' := 5) (by decide) (by decide) (by decide))).symm)
  · exact fun q3 => absurd ((lay_s (by decide)).symm.trans q3) (by decide)
  · exact (congrFun (sE_r (by decide)) t).trans (r7.trans ((lay_w (w' := 7) (by decide) (by decide) (by decide))).symm)
  · exact (congrFun (sE_r (by decide)) t).trans (r8.trans ((lay_w (w' := 8) (by decide) (by decide) (by decide))).symm)
  · exact (congrFun (sE_r (by decide)) t).trans (r9.trans ((lay_w (w' := 9) (by decide) (by decide) (by decide))).symm)
  · rw [lay_s (by decide)]; exact ⟨1, by decide, rfl⟩
  · rw [(lay_w (w' := 0) (by decide) (by decide) (by decide))]; exact w2
  · rw [(lay_w (w' := 7) (by decide) (by decide) (by decide)), (show dyT ((fX7_lay μ t 2 1).2 0) = dyT (μ.2 0) from congrArg Int32.toNatClampNeg (lay_low (by decide)))]; exact w3
  · rw [(lay_w (w' := 9) (by decide) (by decide) (by decide)), (show nT ((fX7_lay μ t 2 1).2 0) = nT (μ.2 0) from congrArg Int32.toNatClampNeg (lay_low (by decide)))]; exact w4
  · refine Acy_same (lay_low (by decide)) (fun s hs => ?_) h.b.2.2.2.2.2.1
    by_cases e : s = t
    · subst e; exact (lay_w (w' := 9) (by decide) (by decide) (by decide))
    · have hw : 9 < 10 := by decide
      exact (lay_o (by decide) e hw)
  · have e : lc ((fX7_lay μ t 2 1).2 0) o t = lc (μ.2 0) o t := by
      unfold lc
      rw [(lay_w (w' := 3) (by decide) (by decide) (by decide)), (lay_w (w' := 0) (by decide) (by decide) (by decide)), show tk ((fX7_lay μ t 2 1).2 0) t 2 = 1 from lay_s (by decide)]
      have hl2 : ¬ 3 ≤ tk (μ.2 0) t 2 := fun q => by unfold fX7_isLeft at hl; rw [show fX7_of μ t 2 = tk (μ.2 0) t 2 from rfl, if_pos q] at hl; cases hl
      rw [if_neg hl2, if_neg (show ¬ (3 : Int32) ≤ 1 by decide)]
    rw [e, i_self, (sE_r (by decide))]
theorem state2_RB {β μ : BS} (h : AL β μ) {t : Nat} (ht : t < cM μ) (hl : fX7_isLeft μ t = true) : RB (sE β 0 t 2) ((fX7_lay μ t 2 2).2 0) := by
  obtain ⟨r0, r1, r2, r3, r4, r5, r6, r7, r8, r9⟩ := h.rt ht
  obtain ⟨w1, w2, w3, w4⟩ := h.wt ht
  refine RB_lay h.b h.n20 ht (lay_low (by decide)) (lay_low (by decide)) (fun k _ hk => (lay_low hk)) ?_ (fun t' e w hw => (lay_o (by decide) e hw)) (fun r hr t' e => (sE_any e)) (sE_r (by decide)) (sE_r (by decide)) ⟨?_, ?_, ?_, ?_, ?_, ?_, ?_, ?_, ?_, ?_⟩ ⟨?_, ?_, ?_, ?_⟩ ?_ (fun o ho => ?_)
  · exact num_of h.b.1 sE_1 (fun k hk9 => (fun hk : k < 13 => (lay_low hk)) (Nat.lt_trans hk9 (by decide)))
  · rw [sE_s, lay_s (by decide)]
  · exact (congrFun (sE_r (by decide)) t).trans (r1.trans ((lay_w (w' := 0) (by decide) (by decide) (by decide))).symm)
  · exact (congrFun (sE_r (by decide)) t).trans (r2.trans ((lay_w (w' := 1) (by decide) (by decide) (by decide))).symm)
  · exact (congrArg (· + 1) (congrFun (sE_r (by decide)) t)).trans (r3.trans ((lay_w (w' := 3) (by decide) (by decide) (by decide))).symm)
  · exact (congrArg (· + 1) (congrFun (sE_r (by decide)) t)).trans (r4.trans ((lay_w (w' := 4) (by decide) (by decide) (by decide))).symm)
  · exact (congrFun (sE_r (by decide)) t).trans (r5.trans ((lay_w (w' := 5) (by decide) (by decide) (by decide))).symm)
  · exact fun q3 => absurd ((lay_s (by decide)).symm.trans q3) (by decide)
  · exact (congrFun (sE_r (by decide)) t).trans (r7.trans ((lay_w (w' := 7) (by decide) (by decide) (by decide))).symm)
  · exact (congrFun (sE_r (by decide)) t).trans (r8.trans ((lay_w (w' := 8) (by decide) (by decide) (by decide))).symm)
  · exact (congrFun (sE_r (by decide)) t).trans (r9.trans ((lay_w (w' := 9) (by decide) (by decide) (by decide))).symm)
  · rw [lay_s (by decide)]; exact ⟨2, by decide, rfl⟩
  · rw [(lay_w (w' := 0) (by decide) (by decide) (by decide))]; exact w2
  · rw [(lay_w (w' := 7) (by decide) (by decide) (by decide)), (show dyT ((fX7_lay μ t 2 2).2 0) = dyT (μ.2 0) from congrArg Int32.toNatClampNeg (lay_low (by decide)))]; exact w3
  · rw [(lay_w (w' := 9) (by decide) (by decide) (by decide)), (show nT ((fX7_lay μ t 2 2).2 0) = nT (μ.2 0) from congrArg Int32.toNatClampNeg (lay_low (by decide)))]; exact w4
  · refine Acy_same (lay_low (by decide)) (fun s hs => ?_) h.b.2.2.2.2.2.1
    by_cases e : s = t
    · subst e; exact (lay_w (w' := 9) (by decide) (by decide) (by decide))
    · have hw : 9 < 10 := by decide
      exact (lay_o (by decide) e hw)
  · have e : lc ((fX7_lay μ t 2 2).2 0) o t = lc (μ.2 0) o t := by
      unfold lc
      rw [(lay_w (w' := 3) (by decide) (by decide) (by decide)), (lay_w (w' := 0) (by decide) (by decide) (by decide)), show tk ((fX7_lay μ t 2 2).2 0) t 2 = 2 from lay_s (by decide)]
      have hl2 : ¬ 3 ≤ tk (μ.2 0) t 2 := fun q => by unfold fX7_isLeft at hl; rw [show fX7_of μ t 2 = tk (μ.2 0) t 2 from rfl, if_pos q] at hl; cases hl
      rw [if_neg hl2, if_neg (show ¬ (3 : Int32) ≤ 2 by decide)]
    rw [e, i_self, (sE_r (by decide))]
theorem drop_RB {β μ : BS} (h : AL β μ) {t : Nat} (ht : t < cM μ) (hl : fX7_isLeft μ t = true) : RB (fX0_addLoad (sE β 0 t 4) (β.2 3 t) (-β.2 1 t)) ((fX7_lay μ t 2 4).2 0) := by
  obtain ⟨r0, r1, r2, r3, r4, r5, r6, r7, r8, r9⟩ := h.rt ht
  obtain ⟨w1, w2, w3, w4⟩ := h.wt ht
  refine RB_lay h.b h.n20 ht (lay_low (by decide)) (lay_low (by decide)) (fun k _ hk => (lay_low hk)) ?_ (fun t' e w hw => (lay_o (by decide) e hw)) (fun r hr t' e => (Eq.trans (congrFun (addLoad_r (by omega)) _) (sE_any e))) (Eq.trans (addLoad_r (by decide)) (sE_r (by decide))) (Eq.trans (addLoad_r (by decide)) (sE_r (by decide))) ⟨?_, ?_, ?_, ?_, ?_, ?_, ?_, ?_, ?_, ?_⟩ ⟨?_, ?_, ?_, ?_⟩ ?_ (fun o ho => ?_)
  · exact num_of h.b.1 (Eq.trans (addLoad_1 _ _ _) sE_1) (fun k hk9 => (fun hk : k < 13 => (lay_low hk)) (Nat.lt_trans hk9 (by decide)))
  · exact (congrFun (addLoad_r (by decide)) t).trans (sE_s.trans (lay_s (by decide)).symm)
  · exact (congrFun (Eq.trans (addLoad_r (by decide)) (sE_r (by decide))) t).trans (r1.trans ((lay_w (w' := 0) (by decide) (by decide) (by decide))).symm)
  · exact (congrFun (Eq.trans (addLoad_r (by decide)) (sE_r (by decide))) t).trans (r2.trans ((lay_w (w' := 1) (by decide) (by decide) (by decide))).symm)
  · exact (congrArg (· + 1) (congrFun (Eq.trans (addLoad_r (by decide)) (sE_r (by decide))) t)).trans (r3.trans ((lay_w (w' := 3) (by decide) (by decide) (by decide))).symm)
  · exact (congrArg (· + 1) (congrFun (Eq.trans (addLoad_r (by decide)) (sE_r (by decide))) t)).trans (r4.trans ((lay_w (w' := 4) (by decide) (by decide) (by decide))).symm)
  · exact (congrFun (Eq.trans (addLoad_r (by decide)) (sE_r (by decide))) t).trans (r5.trans ((lay_w (w' := 5) (by decide) (by decide) (by decide))).symm)
  · exact fun q3 => absurd ((lay_s (by decide)).symm.trans q3) (by decide)
  · exact (congrFun (Eq.trans (addLoad_r (by decide)) (sE_r (by decide))) t).trans (r7.trans ((lay_w (w' := 7) (by decide) (by decide) (by decide))).symm)
  · exact (congrFun (Eq.trans (addLoad_r (by decide)) (sE_r (by decide))) t).trans (r8.trans ((lay_w (w' := 8) (by decide) (by decide) (by decide))).symm)
  · exact (congrFun (Eq.trans (addLoad_r (by decide)) (sE_r (by decide))) t).trans (r9.trans ((lay_w (w' := 9) (by decide) (by decide) (by decide))).symm)
  · rw [lay_s (by decide)]; exact ⟨4, by decide, rfl⟩
  · rw [(lay_w (w' := 0) (by decide) (by decide) (by decide))]; exact w2
  · rw [(lay_w (w' := 7) (by decide) (by decide) (by decide)), (show dyT ((fX7_lay μ t 2 4).2 0) = dyT (μ.2 0) from congrArg Int32.toNatClampNeg (lay_low (by decide)))]; exact w3
  · rw [(lay_w (w' := 9) (by decide) (by decide) (by decide)), (show nT ((fX7_lay μ t 2 4).2 0) = nT (μ.2 0) from congrArg Int32.toNatClampNeg (lay_low (by decide)))]; exact w4
  · refine Acy_same (lay_low (by decide)) (fun s hs => ?_) h.b.2.2.2.2.2.1
    by_cases e : s = t
    · subst e; exact (lay_w (w' := 9) (by decide) (by decide) (by decide))
    · have hw : 9 < 10 := by decide
      exact (lay_o (by decide) e hw)
  · have e : lc ((fX7_lay μ t 2 4).2 0) o t = 0 := by
      unfold lc
      rw [show tk ((fX7_lay μ t 2 4).2 0) t 2 = 4 from lay_s (by decide), if_pos (show (3 : Int32) ≤ 4 by decide)]
      split <;> rfl
    rw [e, addLoad_11 (h.1.2.2 t (by have := h.n20; omega)) ho, sE_r (by decide), lc_own h ht, hl, if_pos rfl, h.pt ht, Int32.add_zero]
    by_cases c2 : β.2 3 t = nI o
    · rw [if_pos c2, if_pos c2, Int32.sub_eq_add_neg]
    · rw [if_neg c2, if_neg c2, Int32.sub_zero]
theorem finish_RB {β μ : BS} (h : AL β μ) {t : Nat} (ht : t < cM μ) (hl : fX7_isLeft μ t = true) : RB (fX0_addLoad (sE (sI (sE β 6 t (β.1 1)) 2 (β.1 2 + 1)) 0 t 3) (β.2 3 t) (-β.2 1 t)) ((sE (fX7_lay (fX7_lay μ t 2 3) t 6 (μ.2 0 1)) 0 2 (μ.2 0 2 + 1)).2 0) := by
  obtain ⟨r0, r1, r2, r3, r4, r5, r6, r7, r8, r9⟩ := h.rt ht
  obtain ⟨w1, w2, w3, w4⟩ := h.wt ht
  refine RB_lay h.b h.n20 ht (Eq.trans (sE0_low (by decide)) (Eq.trans (lay_low (by decide)) (lay_low (by decide)))) (Eq.trans (sE0_low (by decide)) (Eq.trans (lay_low (by decide)) (lay_low (by decide)))) (fun k _ hk => (Eq.trans (sE0_low (by omega)) (Eq.trans (lay_low hk) (lay_low hk)))) ?_ (fun t' e w hw => (Eq.trans (sE0_tk (by decide)) (Eq.trans (lay_o (by decide) e hw) (lay_o (by decide) e hw)))) (fun r hr t' e => (Eq.trans (congrFun (addLoad_r (by omega)) _) (Eq.trans (sE_any e) (Eq.trans sI_a (sE_any e))))) (Eq.trans (addLoad_r (by decide)) (Eq.trans (sE_r (by decide)) (Eq.trans sI_r (sE_r (by decide))))) (Eq.trans (addLoad_r (by decide)) (Eq.trans (sE_r (by decide)) (Eq.trans sI_r (sE_r (by decide))))) ⟨?_, ?_, ?_, ?_, ?_, ?_, ?_, ?_, ?_, ?_⟩ ⟨?_, ?_, ?_, ?_⟩ ?_ (fun o ho => ?_)
  · rw [addLoad_1]; exact ⟨h.b.1.1.trans ((Eq.trans (sE0_low (by decide)) (Eq.trans (lay_low (by decide)) (lay_low (by decide))))).symm, h.b.1.2.1.trans ((Eq.trans (sE0_low (by decide)) (Eq.trans (lay_low (by decide)) (lay_low (by decide))))).symm, (congrArg (· + 1) h.b.1.2.2.1).trans sE0_s.symm, h.b.1.2.2.2.trans ((Eq.trans (sE0_low (by decide)) (Eq.trans (lay_low (by decide)) (lay_low (by decide))))).symm⟩
  · exact (congrFun (addLoad_r (by decide)) t).trans (sE_s.trans ((sE0_tk (by decide)).trans ((lay_w (by decide) (by decide) (by decide)).trans (lay_s (by decide)))).symm)
  · exact (congrFun (Eq.trans (addLoad_r (by decide)) (Eq.trans (sE_r (by decide)) (Eq.trans sI_r (sE_r (by decide))))) t).trans (r1.trans ((Eq.trans (sE0_tk (w := 0) (by decide)) (Eq.trans (lay_w (w' := 0) (by decide) (by decide) (by decide)) (lay_w (w' := 0) (by decide) (by decide) (by decide))))).symm)
  · exact (congrFun (Eq.trans (addLoad_r (by decide)) (Eq.trans (sE_r (by decide)) (Eq.trans sI_r (sE_r (by decide))))) t).trans (r2.trans ((Eq.trans (sE0_tk (w := 1) (by decide)) (Eq.trans (lay_w (w' := 1) (by decide) (by decide) (by decide)) (lay_w (w' := 1) (by decide) (by decide) (by decide))))).symm)
  · exact (congrArg (· + 1) (congrFun (Eq.trans (addLoad_r (by decide)) (Eq.trans (sE_r (by decide)) (Eq.trans sI_r (sE_r (by decide))))) t)).trans (r3.trans ((Eq.trans (sE0_tk (w := 3) (by decide)) (Eq.trans (lay_w (w' := 3) (by decide) (by decide) (by decide)) (lay_w (w' := 3) (by decide) (by decide) (by decide))))).symm)
  · exact (congrArg (· + 1) (congrFun (Eq.trans (addLoad_r (by decide)) (Eq.trans (sE_r (by decide)) (Eq.trans sI_r (sE_r (by decide))))) t)).trans (r4.trans ((Eq.trans (sE0_tk (w := 4) (by decide)) (Eq.trans (lay_w (w' := 4) (by decide) (by decide) (by decide)) (lay_w (w' := 4) (by decide) (by decide) (by decide))))).symm)
  · exact (congrFun (Eq.trans (addLoad_r (by decide)) (Eq.trans (sE_r (by decide)) (Eq.trans sI_r (sE_r (by decide))))) t).trans (r5.trans ((Eq.trans (sE0_tk (w := 5) (by decide)) (Eq.trans (lay_w (w' := 5) (by decide) (by decide) (by decide)) (lay_w (w' := 5) (by decide) (by decide) (by decide))))).symm)
  · exact fun _ => (congrFun (addLoad_r (by decide)) t).trans ((congrFun (sE_r (by decide)) t).trans (sI_a.trans (sE_s.trans (h.b.1.2.1.trans ((sE0_tk (by decide)).trans (lay_s (by decide))).symm))))
  · exact (congrFun (Eq.trans (addLoad_r (by decide)) (Eq.trans (sE_r (by decide)) (Eq.trans sI_r (sE_r (by decide))))) t).trans (r7.trans ((Eq.trans (sE0_tk (w := 7) (by decide)) (Eq.trans (lay_w (w' := 7) (by decide) (by decide) (by decide)) (lay_w (w' := 7) (by decide) (by decide) (by decide))))).symm)
  · exact (congrFun (Eq.trans (addLoad_r (by decide)) (Eq.trans (sE_r (by decide)) (Eq.trans sI_r (sE_r (by decide))))) t).trans (r8.trans ((Eq.trans (sE0_tk (w := 8) (by decide)) (Eq.trans (lay_w (w' := 8) (by decide) (by decide) (by decide)) (lay_w (w' := 8) (by decide) (by decide) (by decide))))).symm)
  · exact (congrFun (Eq.trans (addLoad_r (by decide)) (Eq.trans (sE_r (by decide)) (Eq.trans sI_r (sE_r (by decide))))) t).trans (r9.trans ((Eq.trans (sE0_tk (w := 9) (by decide)) (Eq.trans (lay_w (w' := 9) (by decide) (by decide) (by decide)) (lay_w (w' := 9) (by decide) (by decide) (by decide))))).symm)
  · rw [(sE0_tk (by decide)).trans ((lay_w (by decide) (by decide) (by decide)).trans (lay_s (by decide)))]; exact ⟨3, by decide, rfl⟩
  · rw [(Eq.trans (sE0_tk (w := 0) (by decide)) (Eq.trans (lay_w (w' := 0) (by decide) (by decide) (by decide)) (lay_w (w' := 0) (by decide) (by decide) (by decide))))]; exact w2
  · rw [(Eq.trans (sE0_tk (w := 7) (by decide)) (Eq.trans (lay_w (w' := 7) (by decide) (by decide) (by decide)) (lay_w (w' := 7) (by decide) (by decide) (by decide)))), (show dyT ((sE (fX7_lay (fX7_lay μ t 2 3) t 6 (μ.2 0 1)) 0 2 (μ.2 0 2 + 1)).2 0) = dyT (μ.2 0) from congrArg Int32.toNatClampNeg (Eq.trans (sE0_low (by decide)) (Eq.trans (lay_low (by decide)) (lay_low (by decide)))))]; exact w3
  · rw [(Eq.trans (sE0_tk (w := 9) (by decide)) (Eq.trans (lay_w (w' := 9) (by decide) (by decide) (by decide)) (lay_w (w' := 9) (by decide) (by decide) (by decide)))), (show nT ((sE (fX7_lay (fX7_lay μ t 2 3) t 6 (μ.2 0 1)) 0 2 (μ.2 0 2 + 1)).2 0) = nT (μ.2 0) from congrArg Int32.toNatClampNeg (Eq.trans (sE0_low (by decide)) (Eq.trans (lay_low (by decide)) (lay_low (by decide)))))]; exact w4
  · refine Acy_same (Eq.trans (sE0_low (by decide)) (Eq.trans (lay_low (by decide)) (lay_low (by decide)))) (fun s hs => ?_) h.b.2.2.2.2.2.1
    by_cases e : s = t
    · subst e; exact (Eq.trans (sE0_tk (w := 9) (by decide)) (Eq.trans (lay_w (w' := 9) (by decide) (by decide) (by decide)) (lay_w (w' := 9) (by decide) (by decide) (by decide))))
    · have hw : 9 < 10 := by decide
      exact (Eq.trans (sE0_tk (by decide)) (Eq.trans (lay_o (by decide) e hw) (lay_o (by decide) e hw)))
  · have e : lc ((sE (fX7_lay (fX7_lay μ t 2 3) t 6 (μ.2 0 1)) 0 2 (μ.2 0 2 + 1)).2 0) o t = 0 := by
      unfold lc
      rw [show tk ((sE (fX7_lay (fX7_lay μ t 2 3) t 6 (μ.2 0 1)) 0 2 (μ.2 0 2 + 1)).2 0) t 2 = 3 from (sE0_tk (by decide)).trans ((lay_w (by decide) (by decide) (by decide)).trans (lay_s (by decide))), if_pos (show (3 : Int32) ≤ 3 by decide)]
      split <;> rfl
    rw [e, addLoad_11 (h.1.2.2 t (by have := h.n20; omega)) ho, sE_r (by decide), show (sI (sE β 6 t (β.1 1)) 2 (β.1 2 + 1)).2 11 = β.2 11 from Eq.trans sI_r (sE_r (by decide)), lc_own h ht, hl, if_pos rfl, h.pt ht, Int32.add_zero]
    by_cases c2 : β.2 3 t = nI o
    · rw [if_pos c2, if_pos c2, Int32.sub_eq_add_neg]
    · rw [if_neg c2, if_neg c2, Int32.sub_zero]
theorem need_RB {β μ : BS} (h : AL β μ) {t : Nat} (ht : t < cM μ) {v : Int32} (hv : ∀ j, nT (μ.2 0) ≤ j → j < 32 → bt v j = false) (ha : Acy ((fX7_lay μ t 9 v).2 0)) : RB (sE β 9 t v) ((fX7_lay μ t 9 v).2 0) := by
  obtain ⟨r0, r1, r2, r3, r4, r5, r6, r7, r8, r9⟩ := h.rt ht
  obtain ⟨w1, w2, w3, w4⟩ := h.wt ht
  refine RB_lay h.b h.n20 ht (lay_low (by decide)) (lay_low (by decide)) (fun k _ hk => (lay_low hk)) ?_ (fun t' e w hw => (lay_o (by decide) e hw)) (fun r hr t' e => (sE_any e)) (sE_r (by decide)) (sE_r (by decide)) ⟨?_, ?_, ?_, ?_, ?_, ?_, ?_, ?_, ?_, ?_⟩ ⟨?_, ?_, ?_, ?_⟩ ?_ (fun o ho => ?_)
  · exact num_of h.b.1 sE_1 (fun k hk9 => (fun hk : k < 13 => (lay_low hk)) (Nat.lt_trans hk9 (by decide)))
  · exact (congrFun (sE_r (by decide)) t).trans (r0.trans ((lay_w (w' := 2) (by decide) (by decide) (by decide))).symm)
  · exact (congrFun (sE_r (by decide)) t).trans (r1.trans ((lay_w (w' := 0) (by decide) (by decide) (by decide))).symm)
  · exact (congrFun (sE_r (by decide)) t).trans (r2.trans ((lay_w (w' := 1) (by decide) (by decide) (by decide))).symm)
  · exact (congrArg (· + 1) (congrFun (sE_r (by decide)) t)).trans (r3.trans ((lay_w (w' := 3) (by decide) (by decide) (by decide))).symm)
  · exact (congrArg (· + 1) (congrFun (sE_r (by decide)) t)).trans (r4.trans ((lay_w (w' := 4) (by decide) (by decide) (by decide))).symm)
  · exact (congrFun (sE_r (by decide)) t).trans (r5.trans ((lay_w (w' := 5) (by decide) (by decide) (by decide))).symm)
  · exact fun q3 => (congrFun (sE_r (by decide)) t).trans ((r6 (((lay_w (w' := 2) (by decide) (by decide) (by decide))).symm.trans q3)).trans ((lay_w (w' := 6) (by decide) (by decide) (by decide))).symm)
  · exact (congrFun (sE_r (by decide)) t).trans (r7.trans ((lay_w (w' := 7) (by decide) (by decide) (by decide))).symm)
  · exact (congrFun (sE_r (by decide)) t).trans (r8.trans ((lay_w (w' := 8) (by decide) (by decide) (by decide))).symm)
  · rw [sE_s, lay_s (by decide)]
  · rw [(lay_w (w' := 2) (by decide) (by decide) (by decide))]; exact w1
  · rw [(lay_w (w' := 0) (by decide) (by decide) (by decide))]; exact w2
  · rw [(lay_w (w' := 7) (by decide) (by decide) (by decide)), (show dyT ((fX7_lay μ t 9 v).2 0) = dyT (μ.2 0) from congrArg Int32.toNatClampNeg (lay_low (by decide)))]; exact w3
  · intro j h1 h2
    rw [show nT ((fX7_lay μ t 9 v).2 0) = nT (μ.2 0) from congrArg Int32.toNatClampNeg (lay_low (by decide))] at h1
    rw [lay_s (by decide)]
    exact hv j h1 h2
  · exact ha
  · have e : lc ((fX7_lay μ t 9 v).2 0) o t = lc (μ.2 0) o t := by unfold lc; rw [(lay_w (w' := 3) (by decide) (by decide) (by decide)), (lay_w (w' := 2) (by decide) (by decide) (by decide)), (lay_w (w' := 0) (by decide) (by decide) (by decide))]
    rw [e, i_self, (sE_r (by decide))]
