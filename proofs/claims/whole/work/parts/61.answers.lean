/-! ===== the changes: answers and states, one by one ===== -/
theorem of_row {μ ν : BS} (e : ν.2 0 = μ.2 0) (t w : Nat) : fX7_of ν t w = fX7_of μ t w := by unfold fX7_of; rw [e]
theorem iRoom {β μ : BS} (h : AL β μ) : fX0_hasRoom β = true ↔ ¬ μ.2 0 0 = 20 := by
  have hn := h.n20
  have e0 := h.f0
  unfold fX0_hasRoom
  rw [h.b.1.1]
  generalize cM μ = n at hn e0
  rw [e0]
  by_cases c : n = 20
  · subst c
    exact iff_of_false (by decide) (by decide)
  · refine iff_of_true ?_ (fun q => c ((nI_eq (a := n) (b := 20) (by omega) (by omega)).mp q))
    rw [if_neg (fun q => by
      have := (nI_leI (a := 20) (b := n) (by omega) (by omega)).mp q
      omega)]
theorem iNd {β μ : BS} (h : AL β μ) {t u : Nat} {b : Int32} (ht : t < cM μ) (hu : u < cM μ) (e : b = nI u) : fX0_needsDirectly β t b = true ↔ fX7_needsIt (sI μ 0 0) t b = true := by
  have := h.n20
  subst e
  rw [needsD_eq h ht (by omega)]
  exact Iff.rfl
theorem iCap {β μ : BS} (h : AL β μ) {o : Nat} {a b : Int32} (e : a = nI o) (ho : o < 5) : (¬ b < β.2 11 o) ↔ fX7_load (sI μ 0 0) a ≤ b := by
  subst e
  rw [acct_eq h ho]
  exact Int32.not_lt
theorem iPass {β μ : BS} (h : AL β μ) (d : Int32) : fX0_canPass β d = true ↔ μ.2 0 1 + d ≤ 999 := by
  unfold fX0_canPass
  rw [h.b.1.2.1]
  by_cases c : 999 < μ.2 0 1 + d
  · rw [if_pos c]
    exact iff_of_false (by decide) (fun q => absurd c (Int32.not_lt.mpr q))
  · rw [if_neg c]
    exact iff_of_true rfl (Int32.not_lt.mp c)
theorem can_need {β μ : BS} (h : AL β μ) {t u : Nat} (ht : t < cM μ) (hu : u < cM μ) (c : fX7_canNeed (sI μ 0 0) t u = true) : bt (fX7_of μ t 9) u = false ∧ (¬ t = u) ∧ bt (fX7_allNeeds μ u) t = false := by
  have hn := h.n20
  have c : fX7_canNeed μ t u = true := c
  unfold fX7_canNeed at c
  by_cases c1 : nI t = nI u
  · rw [if_pos c1] at c; cases c
  · rw [if_neg c1] at c
    by_cases c2 : fX7_needsIt μ t (nI u) = true
    · rw [if_pos c2] at c; cases c
    · rw [if_neg c2] at c
      by_cases c3 : fX7_isLeft μ t = true
      · rw [if_pos c3] at c
        by_cases c4 : ((fX7_allNeeds μ u) >>> ((nI t) &&& 31)) &&& 1 = 0
        · exact ⟨tf_of (fun q => c2 (by rw [needsIt_bt (by omega)]; exact q)), fun q => c1 (congrArg nI q), (bt_ask0 (by omega)).mp c4⟩
        · rw [if_neg c4] at c; cases c
      · rw [if_neg c3] at c; cases c
theorem nd_new {x : Int32} {u : Nat} (hu : u < 32) (q : bt x u = false) : x ||| s1 u = x ^^^ s1 u := bt_ext fun i hi => by
  rw [bt_or, bt_xor, bt_s1 hu hi]
  by_cases e : i = u
  · subst e; rw [q]; simp
  · simp [e]
theorem nd_rel {x : Int32} {u : Nat} (hu : u < 32) (q : bt x u = true) : x &&& (s1 u ^^^ (-1)) = x ^^^ s1 u := bt_ext fun i hi => by
  rw [bt_and, bt_not _ hi, bt_xor, bt_s1 hu hi]
  by_cases e : i = u
  · subst e; rw [q]; simp
  · simp [e]
theorem nd_hi {β μ : BS} (h : AL β μ) {t u : Nat} (ht : t < cM μ) (hu : u < cM μ) : ∀ j, cM μ ≤ j → j < 32 → bt (fX7_of μ t 9 ^^^ s1 u) j = false := fun j h1 h2 => by
  have hn := h.n20
  have e : decide (j = u) = false := by simp; omega
  rw [bt_xor, h.nb ht h1 h2, bt_s1 (by omega) h2, e]
  rfl
theorem takes_val {μ : BS} {t u : Nat} : (fX7_takesNeed μ t (nI u)).1 = fX7_bits (fX7_of μ t 9 ^^^ s1 u) := congrArg fX7_bits (show fX7_of (fX7_lay μ t 9 (fX7_of μ t 9 ^^^ s1 u)) t 9 = fX7_of μ t 9 ^^^ s1 u from lay_s (by decide))
theorem need_val {β μ : BS} (h : AL β μ) {t u : Nat} {b : Int32} (ht : t < cM μ) (hu : u < cM μ) (e : b = nI u) (q : bt (fX7_of μ t 9) u = false) : (fX0_addNeed β t b).1 = (fX7_takesNeed μ t b).1 := by
  have hn := h.n20
  subst e
  rw [takes_val]
  show fJ6_bitCount_0f7a4 ((sE β 9 t (β.2 9 t ||| s1 u)).2 9 t) = _
  rw [sE_s, h.nd ht, nd_new (by omega) q]
  exact bc_bits hn (nd_hi h ht hu)
theorem rel_val {β μ : BS} (h : AL β μ) {t u : Nat} {b : Int32} (ht : t < cM μ) (hu : u < cM μ) (e : b = nI u) (q : bt (fX7_of μ t 9) u = true) : (fX0_removeNeed β t b).1 = (fX7_takesNeed μ t b).1 := by
  have hn := h.n20
  subst e
  rw [takes_val]
  show fJ6_bitCount_0f7a4 ((sE β 9 t (β.2 9 t &&& (s1 u ^^^ (-1)))).2 9 t) = _
  rw [sE_s, h.nd ht, nd_rel (by omega) q]
  exact bc_bits hn (nd_hi h ht hu)
theorem Acy_need {f f' : Nat → Int32} {t u : Nat} (hu : u < nT f) (hne : ¬ t = u) (ha : Acy f) (hno : ¬ TC f u t) (h0 : f' 0 = f 0) (h9 : ∀ s, s ≠ t → tk f' s 9 = tk f s 9) (h9t : ∀ j, j < 32 → bt (tk f' t 9) j = true → bt (tk f t 9) j = true ∨ j = u) : Acy f' := by
  classical
  obtain ⟨r, hr⟩ := ha
  refine ⟨fun x => r x + (if x = t ∨ TC f x t then r u + 1 else 0), fun a b q => ?_⟩
  obtain ⟨q1, q2, q3⟩ := q
  have en : nT f' = nT f := by unfold nT; rw [h0]
  rw [en] at q1
  have hut : ¬ (u = t ∨ TC f u t) := fun w => w.elim (fun e => hne e.symm) hno
  show r b + (if b = t ∨ TC f b t then r u + 1 else 0) < r a + (if a = t ∨ TC f a t then r u + 1 else 0)
  by_cases he : Ed f a b
  · have h1 := hr a b he
    by_cases hb : b = t ∨ TC f b t
    · have hat : a = t ∨ TC f a t := Or.inr (hb.elim (fun e => by subst e; exact Relation.TransGen.single he) (fun w => Relation.TransGen.trans (Relation.TransGen.single he) w))
      rw [if_pos hb, if_pos hat]
      omega
    · rw [if_neg hb]
      generalize (if a = t ∨ TC f a t then r u + 1 else 0) = z
      omega
  · have e : a = t := by
      by_cases e : a = t
      · exact e
      · exact absurd ⟨q1, q2, by rw [← h9 a e]; exact q3⟩ he
    subst e
    have e2 : b = u := (h9t b q2 q3).elim (fun w => absurd ⟨q1, q2, w⟩ he) id
    subst e2
    rw [if_neg hut, if_pos (Or.inl rfl)]
    omega
theorem Acy_rel {f f' : Nat → Int32} {t : Nat} (ha : Acy f) (h0 : f' 0 = f 0) (h9 : ∀ s, s ≠ t → tk f' s 9 = tk f s 9) (h9t : ∀ j, j < 32 → bt (tk f' t 9) j = true → bt (tk f t 9) j = true) : Acy f' := by
  obtain ⟨r, hr⟩ := ha
  refine ⟨r, fun a b q => ?_⟩
  obtain ⟨q1, q2, q3⟩ := q
  have en : nT f' = nT f := by unfold nT; rw [h0]
  rw [en] at q1
  by_cases e : a = t
  · subst e; exact hr _ _ ⟨q1, q2, h9t b q2 q3⟩
  · exact hr _ _ ⟨q1, q2, by rw [← h9 a e]; exact q3⟩
theorem need_RBx {β μ : BS} (h : AL β μ) {t u : Nat} {b : Int32} (ht : t < cM μ) (hu : u < cM μ) (e : b = nI u) (q1 : bt (fX7_of μ t 9) u = false) (q2 : ¬ t = u) (q3 : bt (fX7_allNeeds μ u) t = false) : RB (fX0_addNeed β t b).2 ((fX7_takesNeed μ t b).2.2 0) := by
  have hn := h.n20
  subst e
  show RB (sE β 9 t (β.2 9 t ||| s1 u)) ((fX7_lay μ t 9 (fX7_of μ t 9 ^^^ s1 u)).2 0)
  rw [h.nd ht, nd_new (by omega) q1]
  refine need_RB h ht (nd_hi h ht hu) (Acy_need (t := t) (u := u) hu q2 h.b.2.2.2.2.2.1 (fun w => ?_) (lay_low (by decide)) (fun s hs => lay_o (by decide) hs (by decide)) (fun j hj w => ?_))
  · have := (CL_iff hn (allNeeds_CL h hu) (u := t) (by omega)).mpr w
    rw [q3] at this
    cases this
  · rw [lay_s (by decide), bt_xor, bt_s1 (by omega) hj] at w
    by_cases e : j = u
    · exact Or.inr e
    · refine Or.inl ?_
      have e2 : decide (j = u) = false := by simp [e]
      rw [e2, Bool.xor_false] at w
      exact w
theorem rel_RB {β μ : BS} (h : AL β μ) {t u : Nat} {b : Int32} (ht : t < cM μ) (hu : u < cM μ) (e : b = nI u) (q1 : bt (fX7_of μ t 9) u = true) : RB (fX0_removeNeed β t b).2 ((fX7_takesNeed μ t b).2.2 0) := by
  have hn := h.n20
  subst e
  show RB (sE β 9 t (β.2 9 t &&& (s1 u ^^^ (-1)))) ((fX7_lay μ t 9 (fX7_of μ t 9 ^^^ s1 u)).2 0)
  rw [h.nd ht, nd_rel (by omega) q1]
  refine need_RB h ht (nd_hi h ht hu) (Acy_rel (t := t) h.b.2.2.2.2.2.1 (lay_low (by decide)) (fun s hs => lay_o (by decide) hs (by decide)) (fun j hj w => ?_))
  rw [lay_s (by decide), ← nd_rel (by omega) q1, bt_and, Bool.and_eq_true] at w
  exact w.1
theorem give_RBx {β μ : BS} (h : AL β μ) {t o : Nat} (ht : t < cM μ) (ho : o < 5) (c : fX0_canBeGivenTo β t o = true) : RB (fX0_giveTo β t o).2 ((fX7_assigns μ t o).2.2 0) := by
  unfold fX0_canBeGivenTo at c
  by_cases c1 : fX0_isUnfinished β t = true
  · rw [if_pos c1] at c
    by_cases c2 : β.2 3 t = nI o
    · rw [if_pos c2] at c; cases c
    · have := give_RB h ht (by rw [← unf_eq h ht]; exact c1) ho c2
      have e : (sE (fX0_addLoad β (β.2 3 t) (-β.2 1 t)) 3 t (nI o)).2 1 t = β.2 1 t := by rw [sE_r (by decide), addLoad_r (by decide)]
      show RB (fX0_addLoad (sE (fX0_addLoad β (β.2 3 t) (-β.2 1 t)) 3 t (nI o)) (nI o) ((sE (fX0_addLoad β (β.2 3 t) (-β.2 1 t)) 3 t (nI o)).2 1 t)) _
      rw [e]
      exact this
  · rw [if_neg c1] at c; cases c
theorem left_0 {μ : BS} {t : Nat} {x y : Int32} (e : fX7_of μ t 2 = x) (c : x = y) (hy : ¬ 3 ≤ y) : fX7_isLeft μ t = true := by
  unfold fX7_isLeft
  rw [e, c, if_neg hy]
theorem start_0 {μ : BS} {t : Nat} (c : fX7_canStart (sI μ 0 0) t = true) : fX7_of μ t 2 = 0 := by
  have c : fX7_canStart μ t = true := c
  unfold fX7_canStart at c
  by_cases c1 : fX7_of μ t 2 = 0
  · exact c1
  · rw [if_neg c1] at c; cases c
theorem close_2 {μ : BS} {t : Nat} (c : fX7_canClose (sI μ 0 0) t = true) : fX7_of μ t 2 = 2 := by
  have c : fX7_canClose μ t = true := c
  unfold fX7_canClose at c
  by_cases c1 : fX7_of μ t 2 = 2
  · exact c1
  · rw [if_neg c1] at c; cases c
theorem reopen_3 {β μ : BS} (h : AL β μ) {t : Nat} (ht : t < cM μ) (c : fX0_canReopen β t = true) : fX7_of μ t 2 = 3 := by
  unfold fX0_canReopen at c
  by_cases c1 : β.2 0 t = 3
  · rw [← h.st ht]; exact c1
  · rw [if_neg c1] at c; cases c
theorem days_RBx {β μ : BS} (h : AL β μ) {d : Int32} (c1 : fX7_in d 1 30 = true) (c2 : μ.2 0 1 + d ≤ 999) : RB (fX0_pass β d).2 ((fX7_ends μ d).2.2 0) := by
  obtain ⟨p, p1, p2, rfl⟩ := in_nat (a := 1) (b := 30) (by decide) (by decide) c1
  refine days_RB h ?_
  obtain ⟨b7, b8⟩ := h.b.2.2.2.2.2.2.2
  rw [b7, nI_add] at c2
  exact (nI_leI (a := dyT (μ.2 0) + p) (b := 999) (by omega) (by omega)).mp c2
theorem ends_1 (μ : BS) (d : Int32) : (fX7_ends μ d).2.1 = μ.1 := lpF_inv (f := fX7_ends_L12 μ d) (a := sE μ 0 1 ((μ.2 0 1) + d)) (P := fun (x : BS) => x.1 = μ.1) rfl (fun i x h => by unfold fX7_ends_L12; split <;> exact h) (cM μ)
theorem ends_j (μ : BS) (d : Int32) {j : Nat} (hj : j ≠ 0) : (fX7_ends μ d).2.2 j = μ.2 j := lpF_inv (P := fun (x : BS) => x.2 j = μ.2 j) (sE_r hj) (fun i x h => by unfold fX7_ends_L12; split <;> exact (lay_j hj).trans h) (cM μ)
theorem back_val {β μ : BS} (h : AL β μ) {t : Nat} (ht : t < cM μ) : (fX0_putBack β t).1 = fX7_of (fX7_lay (fX7_lay μ t 2 1) t 8 (fX7_of (fX7_lay μ t 2 1) t 8 + 1)) t 8 := by
  have e : fX7_of (fX7_lay μ t 2 1) t 8 = fX7_of μ t 8 := lay_w (by decide) (by decide) (by decide)
  rw [e, show fX7_of (fX7_lay (fX7_lay μ t 2 1) t 8 (fX7_of μ t 8 + 1)) t 8 = fX7_of μ t 8 + 1 from lay_s (by decide)]
  show (sE (sE β 0 t 1) 8 t (((sE β 0 t 1).2 8 t) + 1)).2 8 t = _
  rw [sE_s, sE_r (by decide), h.pb ht]
theorem putBack_RBx {β μ : BS} (h : AL β μ) {t : Nat} (ht : t < cM μ) (hl : fX7_isLeft μ t = true) : RB (fX0_putBack β t).2 ((fX7_lay (fX7_lay μ t 2 1) t 8 (fX7_of (fX7_lay μ t 2 1) t 8 + 1)).2 0) := by
  have e : fX7_of (fX7_lay μ t 2 1) t 8 = fX7_of μ t 8 := lay_w (by decide) (by decide) (by decide)
  rw [e]
  exact putBack_RB h ht hl
theorem closes_eq (μ : BS) (t : Nat) : (fX7_closes μ t).2 = sE (fX7_lay (fX7_lay μ t 2 3) t 6 (μ.2 0 1)) 0 2 (μ.2 0 2 + 1) := by
  show sE (fX7_lay (fX7_lay μ t 2 3) t 6 ((fX7_lay μ t 2 3).2 0 1)) 0 2 (((fX7_lay (fX7_lay μ t 2 3) t 6 ((fX7_lay μ t 2 3).2 0 1)).2 0 2) + 1) = _
  rw [show (fX7_lay (fX7_lay μ t 2 3) t 6 ((fX7_lay μ t 2 3).2 0 1)).2 0 2 = μ.2 0 2 from (lay_low (by decide)).trans (lay_low (by decide)), show (fX7_lay μ t 2 3).2 0 1 = μ.2 0 1 from lay_low (by decide)]
theorem finish_eq (β : BS) (t : Nat) : (fX0_finish β t) = fX0_addLoad (sE (sI (sE β 6 t (β.1 1)) 2 (β.1 2 + 1)) 0 t 3) (β.2 3 t) (-β.2 1 t) := rfl
theorem finish_RBx {β μ : BS} (h : AL β μ) {t : Nat} (ht : t < cM μ) (hl : fX7_isLeft μ t = true) : RB (fX0_finish β t) ((fX7_closes μ t).2.2 0) := by
  rw [closes_eq, finish_eq]
  exact finish_RB h ht hl
theorem vM_closesx {μ : BS} {t : Nat} (h : vM μ) : vM (fX7_closes μ t).2 := by
  rw [closes_eq]
  exact vM_lowD (i := 2) (vM_layD (t := t) (w := 6) (vM_layD (t := t) (w := 2) (v := 3) h rfl) rfl) rfl
/-- what a change of one ticket's state does to the sets -/
theorem st_of9 {μ ν : BS} {t : Nat} (ho : ∀ s, s ≠ t → ∀ w, w < 10 → fX7_of ν s w = fX7_of μ s w) (h9 : fX7_of ν t 9 = fX7_of μ t 9) (j : Nat) : fX7_of ν j 9 = fX7_of μ j 9 := by
  by_cases e : j = t
  · subst e; exact h9
  · exact ho j e 9 (by decide)
theorem st_left {μ ν : BS} {t : Nat} (ho : ∀ s, s ≠ t → ∀ w, w < 10 → fX7_of ν s w = fX7_of μ s w) (hl : fX7_isLeft ν t = true → fX7_isLeft μ t = true) (j : Nat) (q : fX7_isLeft ν j = true) : fX7_isLeft μ j = true := by
  by_cases e : j = t
  · subst e; exact hl q
  · unfold fX7_isLeft at q ⊢
    rw [ho j e 2 (by decide)] at q
    exact q
theorem close_val {β μ : BS} (h : AL β μ) {t : Nat} (ht : t < cM μ) (hl : fX7_isLeft μ t = true) (h' : AL (fX0_finish β t) (fX7_closes μ t).2) : fJ6_bitCount_0f7a4 ((fX0_blockedSet β) &&& ((fX0_blockedSet (fX0_finish β t)) ^^^ (-1))) = (fX7_closes μ t).1 := by
  have hn := h.n20
  have e1 := blocked_eq h
  have e2 := blocked_eq h'
  have hc : cM (fX7_closes μ t).2 = cM μ := by
    unfold cM
    rw [closes_eq]
    exact congrArg Int32.toNatClampNeg ((sE0_low (by decide)).trans ((lay_low (by decide)).trans (lay_low (by decide))))
  have ho : ∀ s, s ≠ t → ∀ w, w < 10 → fX7_of (fX7_closes μ t).2 s w = fX7_of μ s w := fun s hs w hw => by
    rw [closes_eq]
    exact (sE0_tk (by decide)).trans ((lay_o (by decide) hs hw).trans (lay_o (by decide) hs hw))
  have h9 : fX7_of (fX7_closes μ t).2 t 9 = fX7_of μ t 9 := by
    rw [closes_eq]
    exact (sE0_tk (by decide)).trans ((lay_w (by decide) (by decide) (by decide)).trans (lay_w (by decide) (by decide) (by decide)))
  have key := bits_sub (A := fX7_blocked μ) (B := fX7_blocked (fX7_closes μ t).2) hn (blocked_hi hn) (blocked_mono hn hc (fun j _ => st_of9 ho h9 j) (fun j _ q => st_left ho (fun _ => hl) j q))
  show fJ6_bitCount_0f7a4 ((fX0_blockedSet β) &&& ((fX0_blockedSet (fX0_finish β t)) ^^^ (-1))) = fX7_bits (fX7_blocked μ) - fX7_bits (fX7_blocked (fX7_closes μ t).2)
  rw [e1, e2, key]
theorem drop_val {β μ : BS} (h : AL β μ) {t : Nat} (ht : t < cM μ) (hl : fX7_isLeft μ t = true) (h' : AL (fX0_leaveOff β t 4) (fX7_lay μ t 2 4)) : fJ6_bitCount_0f7a4 ((fX0_blockedSet β) &&& ((fX0_blockedSet (fX0_leaveOff β t 4)) ^^^ (-1))) = fX7_bits (fX7_blocked μ) - fX7_bits (fX7_blocked (fX7_lay μ t 2 4)) := by
  have hn := h.n20
  have e1 := blocked_eq h
  have e2 := blocked_eq h'
  have hc : cM (fX7_lay μ t 2 4) = cM μ := congrArg Int32.toNatClampNeg (lay_low (by decide))
  have ho : ∀ s, s ≠ t → ∀ w, w < 10 → fX7_of (fX7_lay μ t 2 4) s w = fX7_of μ s w := fun s hs w hw => lay_o (by decide) hs hw
  have h9 : fX7_of (fX7_lay μ t 2 4) t 9 = fX7_of μ t 9 := lay_w (by decide) (by decide) (by decide)
  have key := bits_sub (A := fX7_blocked μ) (B := fX7_blocked (fX7_lay μ t 2 4)) hn (blocked_hi hn) (blocked_mono hn hc (fun j _ => st_of9 ho h9 j) (fun j _ q => st_left ho (fun _ => hl) j q))
  show fJ6_bitCount_0f7a4 ((fX0_blockedSet β) &&& ((fX0_blockedSet (fX0_leaveOff β t 4)) ^^^ (-1))) = _
  rw [e1, e2, key]
theorem reopens_eq (μ : BS) (t : Nat) : sE (fX7_lay (fX7_lay μ t 2 0) t 6 0) 0 3 (((fX7_lay (fX7_lay μ t 2 0) t 6 0).2 0 3) + 1) = sE (fX7_lay (fX7_lay μ t 2 0) t 6 0) 0 3 (μ.2 0 3 + 1) := by
  rw [show (fX7_lay (fX7_lay μ t 2 0) t 6 0).2 0 3 = μ.2 0 3 from (lay_low (by decide)).trans (lay_low (by decide))]
theorem again_eq (β : BS) (t : Nat) : (fX0_openAgain β t) = sI (fX0_addLoad (sE β 0 t 0) (β.2 3 t) (β.2 1 t)) 3 (β.1 3 + 1) := by
  show sI (fX0_addLoad (sE β 0 t 0) (β.2 3 t) (β.2 1 t)) 3 (((fX0_addLoad (sE β 0 t 0) (β.2 3 t) (β.2 1 t)).1 3) + 1) = _
  rw [addLoad_1]
  rfl
theorem openAgain_RBx {β μ : BS} (h : AL β μ) {t : Nat} (ht : t < cM μ) (hl : fX7_of μ t 2 = 3) : RB (fX0_openAgain β t) ((sE (fX7_lay (fX7_lay μ t 2 0) t 6 0) 0 3 (((fX7_lay (fX7_lay μ t 2 0) t 6 0).2 0 3) + 1)).2 0) := by
  rw [reopens_eq, again_eq]
  exact openAgain_RB h ht hl
theorem reopen_val {β μ : BS} (h : AL β μ) {t : Nat} (ht : t < cM μ) (hl : fX7_of μ t 2 = 3) (h' : AL (fX0_openAgain β t) (sE (fX7_lay (fX7_lay μ t 2 0) t 6 0) 0 3 (((fX7_lay (fX7_lay μ t 2 0) t 6 0).2 0 3) + 1))) : fJ6_bitCount_0f7a4 ((fX0_blockedSet (fX0_openAgain β t)) &&& ((fX0_blockedSet β) ^^^ (-1))) = fX7_bits (fX7_blocked (sE (fX7_lay (fX7_lay μ t 2 0) t 6 0) 0 3 (((fX7_lay (fX7_lay μ t 2 0) t 6 0).2 0 3) + 1))) - fX7_bits (fX7_blocked μ) := by
  have hn := h.n20
  have e1 := blocked_eq h
  have e2 := blocked_eq h'
  generalize hν : sE (fX7_lay (fX7_lay μ t 2 0) t 6 0) 0 3 (((fX7_lay (fX7_lay μ t 2 0) t 6 0).2 0 3) + 1) = ν at *
  have hc : cM ν = cM μ := by
    rw [← hν]
    exact congrArg Int32.toNatClampNeg ((sE0_low (by decide)).trans ((lay_low (by decide)).trans (lay_low (by decide))))
  have ho : ∀ s, s ≠ t → ∀ w, w < 10 → fX7_of ν s w = fX7_of μ s w := fun s hs w hw => by
    rw [← hν]
    exact (sE0_tk (by decide)).trans ((lay_o (by decide) hs hw).trans (lay_o (by decide) hs hw))
  have h9 : fX7_of ν t 9 = fX7_of μ t 9 := by
    rw [← hν]
    exact (sE0_tk (by decide)).trans ((lay_w (by decide) (by decide) (by decide)).trans (lay_w (by decide) (by decide) (by decide)))
  have h2 : fX7_of ν t 2 = 0 := by
    rw [← hν]
    exact (sE0_tk (by decide)).trans ((lay_w (by decide) (by decide) (by decide)).trans (lay_s (by decide)))
  have hlν : fX7_isLeft ν t = true := by
    unfold fX7_isLeft
    rw [h2]
    rfl
  have key := bits_sub (A := fX7_blocked ν) (B := fX7_blocked μ) h'.n20 (blocked_hi h'.n20) (blocked_mono (μ := ν) (ν := μ) h'.n20 hc.symm (fun j _ => (st_of9 ho h9 j).symm) (fun j _ q => by
    by_cases e : j = t
    · subst e; exact hlν
    · unfold fX7_isLeft at q ⊢
      rw [ho j e 2 (by decide)]
      exact q))
  show fJ6_bitCount_0f7a4 ((fX0_blockedSet (fX0_openAgain β t)) &&& ((fX0_blockedSet β) ^^^ (-1))) = _
  rw [e1, e2, key]
theorem vM_reopenx {μ : BS} {t : Nat} (h : vM μ) : vM (sE (fX7_lay (fX7_lay μ t 2 0) t 6 0) 0 3 (((fX7_lay (fX7_lay μ t 2 0) t 6 0).2 0 3) + 1)) := vM_lowD (i := 3) (vM_layD (t := t) (w := 6) (v := 0) (vM_layD (t := t) (w := 2) (v := 0) h rfl) rfl) rfl
theorem vM_takesx {μ : BS} {t : Nat} {u : Int32} (h : vM μ) : vM (fX7_takesNeed μ t u).2 := vM_layD (t := t) (w := 9) (v := (fX7_of μ t 9) ^^^ (1 <<< (u &&& 31))) h rfl
theorem vM_backx {μ : BS} {t : Nat} (h : vM μ) : vM (fX7_lay (fX7_lay μ t 2 1) t 8 (fX7_of (fX7_lay μ t 2 1) t 8 + 1)) := vM_layD (t := t) (w := 8) (v := fX7_of (fX7_lay μ t 2 1) t 8 + 1) (vM_layD (t := t) (w := 2) (v := 1) h rfl) rfl
