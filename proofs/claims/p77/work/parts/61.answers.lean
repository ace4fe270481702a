theorem nd_new {x : Int32} {u : Nat} (hu : u < 32) (q : bt x u = false) : x ||| s1 u = x ^^^ s1 u := bt_ext fun i hi => by
  rw [bt_or, bt_xor, bt_s1 hu hi]
  by_cases e : i = u
  · subst e; rw [q]; simp
  · simp [e]
theorem nd_hi {β μ : BS} (h : AL β μ) {t u : Nat} (ht : t < cM μ) (hu : u < cM μ) : ∀ j, cM μ ≤ j → j < 32 → bt (fX7_of μ t 9 ^^^ s1 u) j = false := fun j h1 h2 => by
  have hn := h.n20
  have e : decide (j = u) = false := by simp; omega
  rw [bt_xor, h.nb ht h1 h2, bt_s1 (by omega) h2, e]
  rfl
theorem Acy_need {f f' : Nat → Int32} {t u : Nat} (hu : u < nT f) (hne : ¬ t = u) (ha : Acy f) (hno : ¬ TC f u t) (h0 : f' 0 = f 0) (h9 : ∀ s, s ≠ t → tk f' s 9 = tk f s 9) (h9t : ∀ j, j < 32 → bt (tk f' t 9) j = true → bt (tk f t 9) j = true ∨ j = u) : Acy f' := by
  classical
  obtain ⟨r, hr⟩ := ha
  refine ⟨fun x => r x + (if x = t ∨ TC f x t then r u + 1 else 0), fun a b q => ?_⟩
  obtain ⟨q1, q2, q3⟩ := q
  have en : nT f' = nT f := by unfold nT; rw [h0]
  rw [en] at q1
  have hut : ¬ (u = t ∨ TC f u t) := fun w => w.elim (fun e => hne e.symm) hno
  show r b + (if b = t ∨ TC f b t then r u + 1 else 0) < r a + (if a = t ∨ TC f a t then r u + 1 else 0)
  by_cases he : Ed f a b
  · have h1 := hr a b he
    by_cases hb : b = t ∨ TC f b t
    · have hat : a = t ∨ TC f a t := Or.inr (hb.elim (fun e => by subst e; exact Relation.TransGen.single he) (fun w => Relation.TransGen.trans (Relation.TransGen.single he) w))
      rw [if_pos hb, if_pos hat]
      omega
    · rw [if_neg hb]
      generalize (if a = t ∨ TC f a t then r u + 1 else 0) = z
      omega
  · have e : a = t := by
      by_cases e : a = t
      · exact e
      · exact absurd ⟨q1, q2, by rw [← h9 a e]; exact q3⟩ he
    subst e
    have e2 : b = u := (h9t b q2 q3).elim (fun w => absurd ⟨q1, q2, w⟩ he) id
    subst e2
    rw [if_neg hut, if_pos (Or.inl rfl)]
    omega
theorem need_RBx {β μ : BS} (h : AL β μ) {t u : Nat} {b : Int32} (ht : t < cM μ) (hu : u < cM μ) (e : b = nI u) (q1 : bt (fX7_of μ t 9) u = false) (q2 : ¬ t = u) (q3 : bt (fX7_allNeeds μ u) t = false) : RB (fX0_addNeed β t b).2 ((fX7_takesNeed μ t b).2.2 0) := by
  have hn := h.n20
  subst e
  show RB (sE β 9 t (β.2 9 t ||| s1 u)) ((fX7_lay μ t 9 (fX7_of μ t 9 ^^^ s1 u)).2 0)
  rw [h.nd ht, nd_new (by omega) q1]
  refine need_RB h ht (nd_hi h ht hu) (Acy_need (t := t) (u := u) hu q2 h.b.2.2.2.2.2.1 (fun w => ?_) (lay_low (by decide)) (fun s hs => lay_o (by decide) hs (by decide)) (fun j hj w => ?_))
  · have := (CL_iff hn (allNeeds_CL h hu) (u := t) (by omega)).mpr w
    rw [q3] at this
    cases this
  · rw [lay_s (by decide), bt_xor, bt_s1 (by omega) hj] at w
    by_cases e : j = u
    · exact Or.inr e
    · refine Or.inl ?_
      have e2 : decide (j = u) = false := by simp [e]
      rw [e2, Bool.xor_false] at w
      exact w
theorem give_RBx {β μ : BS} (h : AL β μ) {t o : Nat} (ht : t < cM μ) (ho : o < 5) (c : fX0_canBeGivenTo β t o = true) : RB (fX0_giveTo β t o).2 ((fX7_assigns μ t o).2.2 0) := by
  unfold fX0_canBeGivenTo at c
  by_cases c1 : fX0_isUnfinished β t = true
  · rw [if_pos c1] at c
    by_cases c2 : β.2 3 t = nI o
    · rw [if_pos c2] at c; cases c
    · have := give_RB h ht (by rw [← unf_eq h ht]; exact c1) ho c2
      have e : (sE (fX0_addLoad β (β.2 3 t) (-β.2 1 t)) 3 t (nI o)).2 1 t = β.2 1 t := by rw [sE_r (by decide), addLoad_r (by decide)]
      show RB (fX0_addLoad (sE (fX0_addLoad β (β.2 3 t) (-β.2 1 t)) 3 t (nI o)) (nI o) ((sE (fX0_addLoad β (β.2 3 t) (-β.2 1 t)) 3 t (nI o)).2 1 t)) _
      rw [e]
      exact this
  · rw [if_neg c1] at c; cases c
theorem closes_eq (μ : BS) (t : Nat) : (fX7_closes μ t).2 = sE (fX7_lay (fX7_lay μ t 2 3) t 6 (μ.2 0 1)) 0 2 (μ.2 0 2 + 1) := by
  show sE (fX7_lay (fX7_lay μ t 2 3) t 6 ((fX7_lay μ t 2 3).2 0 1)) 0 2 (((fX7_lay (fX7_lay μ t 2 3) t 6 ((fX7_lay μ t 2 3).2 0 1)).2 0 2) + 1) = _
  rw [show (fX7_lay (fX7_lay μ t 2 3) t 6 ((fX7_lay μ t 2 3).2 0 1)).2 0 2 = μ.2 0 2 from (lay_low (by decide)).trans (lay_low (by decide)), show (fX7_lay μ t 2 3).2 0 1 = μ.2 0 1 from lay_low (by decide)]
theorem finish_eq (β : BS) (t : Nat) : (fX0_finish β t) = fX0_addLoad (sE (sI (sE β 6 t (β.1 1)) 2 (β.1 2 + 1)) 0 t 3) (β.2 3 t) (-β.2 1 t) := rfl
theorem finish_RBx {β μ : BS} (h : AL β μ) {t : Nat} (ht : t < cM μ) (hl : fX7_isLeft μ t = true) : RB (fX0_finish β t) ((fX7_closes μ t).2.2 0) := by
  rw [closes_eq, finish_eq]
  exact finish_RB h ht hl
theorem vM_closesx {μ : BS} {t : Nat} (h : vM μ) : vM (fX7_closes μ t).2 := by
  rw [closes_eq]
  exact vM_lowD (i := 2) (vM_layD (t := t) (w := 6) (vM_layD (t := t) (w := 2) (v := 3) h rfl) rfl) rfl
theorem vM_takesx {μ : BS} {t : Nat} {u : Int32} (h : vM μ) : vM (fX7_takesNeed μ t u).2 := vM_layD (t := t) (w := 9) (v := (fX7_of μ t 9) ^^^ (1 <<< (u &&& 31))) h rfl
