/-! ===== a board and a row that tell the same tracker ===== -/
def tk (f : Nat → Int32) (t w : Nat) : Int32 := f ((13 + (10 * t)) + w)
def nT (f : Nat → Int32) : Nat := (f 0).toNatClampNeg
def dyT (f : Nat → Int32) : Nat := (f 1).toNatClampNeg
/-- the reference's state that has this row -/
def rw9 (f : Nat → Int32) : BS := (fun _ => 0, fun _ => f)
def RT (β : BS) (f : Nat → Int32) (t : Nat) : Prop := β.2 0 t = tk f t 2 ∧ β.2 1 t = tk f t 0 ∧ β.2 2 t = tk f t 1 ∧ β.2 3 t + 1 = tk f t 3 ∧ β.2 4 t + 1 = tk f t 4 ∧ β.2 5 t = tk f t 5 ∧ (tk f t 2 = 3 → β.2 6 t = tk f t 6) ∧ β.2 7 t = tk f t 7 ∧ β.2 8 t = tk f t 8 ∧ β.2 9 t = tk f t 9
def WT (f : Nat → Int32) (t : Nat) : Prop := (∃ s : Nat, s < 5 ∧ tk f t 2 = nI s) ∧ (∃ p : Nat, 1 ≤ p ∧ p ≤ 13 ∧ tk f t 0 = nI p) ∧ (∃ d : Nat, d ≤ dyT f ∧ tk f t 7 = nI d) ∧ ∀ j, nT f ≤ j → j < 32 → bt (tk f t 9) j = false
def Ed (f : Nat → Int32) (a b : Nat) : Prop := a < nT f ∧ b < 32 ∧ bt (tk f a 9) b = true
def Acy (f : Nat → Int32) : Prop := ∃ r : Nat → Nat, ∀ a b, Ed f a b → r b < r a
def RB (β : BS) (f : Nat → Int32) : Prop :=
  (β.1 0 = f 0 ∧ β.1 1 = f 1 ∧ β.1 2 = f 2 ∧ β.1 3 = f 3) ∧ (∀ o, o < 5 → β.2 10 o = f (4 + o)) ∧ (∀ m, m < 4 → β.2 12 m = f (9 + m)) ∧ (∀ t, t < nT f → RT β f t ∧ WT f t) ∧ (∀ t, nT f ≤ t → t < 20 → ∀ w, w < 10 → tk f t w = 0) ∧ Acy f ∧ (∀ o, o < 5 → β.2 11 o = fX7_load (rw9 f) (nI o)) ∧ (f 1 = nI (dyT f) ∧ dyT f ≤ 999)
def AL (β μ : BS) : Prop := vB β ∧ vS (μ.2 0) ∧ RB β (μ.2 0)
theorem AL.b {β μ : BS} (h : AL β μ) : RB β (μ.2 0) := h.2.2
theorem AL.n {β μ : BS} (h : AL β μ) : cnt β = cM μ := congrArg Int32.toNatClampNeg h.b.1.1
theorem AL.n20 {β μ : BS} (h : AL β μ) : cM μ ≤ 20 := h.2.1.1
theorem AL.f0 {β μ : BS} (h : AL β μ) : μ.2 0 0 = nI (cM μ) := h.2.1.2.1
theorem AL.rt {β μ : BS} (h : AL β μ) {t : Nat} (ht : t < cM μ) : RT β (μ.2 0) t := (h.b.2.2.2.1 t ht).1
theorem AL.wt {β μ : BS} (h : AL β μ) {t : Nat} (ht : t < cM μ) : WT (μ.2 0) t := (h.b.2.2.2.1 t ht).2
theorem AL.st {β μ : BS} (h : AL β μ) {t : Nat} (ht : t < cM μ) : β.2 0 t = fX7_of μ t 2 := (h.rt ht).1
theorem AL.pt {β μ : BS} (h : AL β μ) {t : Nat} (ht : t < cM μ) : β.2 1 t = fX7_of μ t 0 := (h.rt ht).2.1
theorem AL.pr {β μ : BS} (h : AL β μ) {t : Nat} (ht : t < cM μ) : β.2 2 t = fX7_of μ t 1 := (h.rt ht).2.2.1
theorem AL.ow {β μ : BS} (h : AL β μ) {t : Nat} (ht : t < cM μ) : β.2 3 t + 1 = fX7_of μ t 3 := (h.rt ht).2.2.2.1
theorem AL.ms {β μ : BS} (h : AL β μ) {t : Nat} (ht : t < cM μ) : β.2 4 t + 1 = fX7_of μ t 4 := (h.rt ht).2.2.2.2.1
theorem AL.op {β μ : BS} (h : AL β μ) {t : Nat} (ht : t < cM μ) : β.2 5 t = fX7_of μ t 5 := (h.rt ht).2.2.2.2.2.1
theorem AL.cl {β μ : BS} (h : AL β μ) {t : Nat} (ht : t < cM μ) (h3 : fX7_of μ t 2 = 3) : β.2 6 t = fX7_of μ t 6 := (h.rt ht).2.2.2.2.2.2.1 h3
theorem AL.pd {β μ : BS} (h : AL β μ) {t : Nat} (ht : t < cM μ) : β.2 7 t = fX7_of μ t 7 := (h.rt ht).2.2.2.2.2.2.2.1
theorem AL.pb {β μ : BS} (h : AL β μ) {t : Nat} (ht : t < cM μ) : β.2 8 t = fX7_of μ t 8 := (h.rt ht).2.2.2.2.2.2.2.2.1
theorem AL.nd {β μ : BS} (h : AL β μ) {t : Nat} (ht : t < cM μ) : β.2 9 t = fX7_of μ t 9 := (h.rt ht).2.2.2.2.2.2.2.2.2
theorem AL.sv {β μ : BS} (h : AL β μ) {t : Nat} (ht : t < cM μ) : ∃ s : Nat, s < 5 ∧ fX7_of μ t 2 = nI s := (h.wt ht).1
theorem AL.nb {β μ : BS} (h : AL β μ) {t : Nat} (ht : t < cM μ) {j : Nat} (h1 : cM μ ≤ j) (h2 : j < 32) : bt (fX7_of μ t 9) j = false := (h.wt ht).2.2.2 j h1 h2
theorem i32_add_r {x y z : Int32} : x + z = y + z ↔ x = y := by
  constructor
  · intro h
    have h2 : x + z - z = y + z - z := by rw [h]
    simpa using h2
  · intro h; rw [h]
theorem AL.owI {β μ : BS} (h : AL β μ) {t : Nat} (ht : t < cM μ) (o : Int32) : fX7_of μ t 3 = o + 1 ↔ β.2 3 t = o := by rw [← h.ow ht]; exact i32_add_r
theorem AL.msI {β μ : BS} (h : AL β μ) {t : Nat} (ht : t < cM μ) (o : Int32) : fX7_of μ t 4 = o + 1 ↔ β.2 4 t = o := by rw [← h.ms ht]; exact i32_add_r
theorem AL.ow0 {β μ : BS} (h : AL β μ) {t : Nat} (ht : t < cM μ) : fX7_of μ t 3 = 0 ↔ β.2 3 t = -1 := by rw [← h.ow ht]; exact (show β.2 3 t + 1 = 0 ↔ β.2 3 t = -1 from (show ((0 : Int32) = -1 + 1) by decide) ▸ i32_add_r)
theorem AL.ms0 {β μ : BS} (h : AL β μ) {t : Nat} (ht : t < cM μ) : fX7_of μ t 4 = 0 ↔ β.2 4 t = -1 := by rw [← h.ms ht]; exact (show β.2 4 t + 1 = 0 ↔ β.2 4 t = -1 from (show ((0 : Int32) = -1 + 1) by decide) ▸ i32_add_r)
theorem tf_of {b : Bool} (h : ¬ b = true) : b = false := by simpa using h
theorem unf_cases : ∀ s : Fin 5, (if nI s.1 = 3 then false else (if nI s.1 = 4 then false else true)) = (if 3 ≤ nI s.1 then false else true) := by decide
theorem unf_eq {β μ : BS} (h : AL β μ) {t : Nat} (ht : t < cM μ) : fX0_isUnfinished β t = fX7_isLeft μ t := by
  unfold fX0_isUnfinished fX7_isLeft
  obtain ⟨s, hs, e⟩ := h.sv ht
  rw [h.st ht, e]
  exact unf_cases ⟨s, hs⟩
theorem bt_left {μ : BS} (hn : cM μ ≤ 20) {j : Nat} (hj : j < 32) : bt (fX7_left μ) j = (decide (j < cM μ) && fX7_isLeft μ j) :=
  lpF_set (by omega) (fun i x _ => by
    unfold fX7_left_L4
    by_cases c : fX7_isLeft μ i = true
    · rw [if_pos c, if_pos c]; rfl
    · rw [if_neg c, if_neg c, or_z]) hj
theorem bt_unf {β : BS} (hn : cnt β ≤ 20) {j : Nat} (hj : j < 32) : bt (fX0_unfinishedSet β) j = (decide (j < cnt β) && fX0_isUnfinished β j) :=
  lpF_set (by omega) (fun i x _ => rfl) hj
theorem and_dec {p : Prop} [Decidable p] {a b : Bool} (h : p → a = b) : (decide p && a) = (decide p && b) := by
  by_cases c : p
  · rw [h c]
  · simp [c]
theorem unfSet_eq {β μ : BS} (h : AL β μ) : fX0_unfinishedSet β = fX7_left μ := bt_ext fun j hj => by
  rw [bt_unf (by rw [h.n]; exact h.n20) hj, bt_left h.n20 hj, h.n]
  exact and_dec fun c => unf_eq h c
theorem blockers_eq {β μ : BS} (h : AL β μ) {t : Nat} (ht : t < cM μ) : fX0_blockerSet β t = fX7_blockers μ t := by
  unfold fX0_blockerSet fX7_blockers
  rw [h.nd ht, unfSet_eq h]
theorem bt_blocked {μ : BS} (hn : cM μ ≤ 20) {j : Nat} (hj : j < 32) : bt (fX7_blocked μ) j = (decide (j < cM μ) && decide (¬ fX7_blockers μ j = 0)) :=
  lpF_set (f := fX7_blocked_L4 μ) (n := cM μ) (c := fun i => decide (¬ fX7_blockers μ i = 0)) (by omega) (fun i x _ => by
    show fX7_blocked_L4 μ i x = if decide (¬ fX7_blockers μ i = 0) = true then x ||| s1 i else x
    unfold fX7_blocked_L4
    by_cases c : fX7_blockers μ i = 0
    · rw [if_pos c, if_neg (by simpa using c), or_z]
    · rw [if_neg c, if_pos (by simpa using c)]; rfl) hj
theorem bt_ttna {β : BS} (hn : cnt β ≤ 20) (a : Int32) {j : Nat} (hj : j < 32) : bt (fX0_thoseThatNeedAny β a) j = (decide (j < cnt β) && decide (¬ (β.2 9 j) &&& a = 0)) :=
  lpF_set (f := fX0_thoseThatNeedAny_L4 β a) (n := cnt β) (c := fun i => decide (¬ (β.2 9 i) &&& a = 0)) (by omega) (fun i x _ => by
    show fX0_thoseThatNeedAny_L4 β a i x = if decide (¬ (β.2 9 i) &&& a = 0) = true then x ||| s1 i else x
    unfold fX0_thoseThatNeedAny_L4
    by_cases c : (β.2 9 i) &&& a = 0
    · rw [if_pos c, if_neg (by simpa using c)]
    · rw [if_neg c, if_pos (by simpa using c)]; rfl) hj
theorem blocked_eq {β μ : BS} (h : AL β μ) : fX0_blockedSet β = fX7_blocked μ := bt_ext fun j hj => by
  unfold fX0_blockedSet
  rw [bt_ttna (by rw [h.n]; exact h.n20) _ hj, bt_blocked h.n20 hj, h.n]
  refine and_dec fun c => ?_
  have e : β.2 9 j &&& fX0_unfinishedSet β = fX7_blockers μ j := by rw [← blockers_eq h c]; rfl
  rw [e]
theorem bt_inS {β : BS} (hn : cnt β ≤ 20) (v : Int32) {j : Nat} (hj : j < 32) : bt (fX0_inState β v) j = (decide (j < cnt β) && decide (β.2 0 j = v)) :=
  lpF_set (f := fX0_setWhere_s_L5 β v) (n := cnt β) (c := fun i => decide (β.2 0 i = v)) (by omega) (fun i x _ => by
    show fX0_setWhere_s_L5 β v i x = if decide (β.2 0 i = v) = true then x ||| s1 i else x
    unfold fX0_setWhere_s_L5
    by_cases c : β.2 0 i = v
    · rw [if_pos c, if_pos (by simpa using c)]; rfl
    · rw [if_neg c, if_neg (by simpa using c)]) hj
theorem bt_own {β : BS} (hn : cnt β ≤ 20) (v : Int32) {j : Nat} (hj : j < 32) : bt (fX0_ownedBy β v) j = (decide (j < cnt β) && decide (β.2 3 j = v)) :=
  lpF_set (f := fX0_setWhere_o_L5 β v) (n := cnt β) (c := fun i => decide (β.2 3 i = v)) (by omega) (fun i x _ => by
    show fX0_setWhere_o_L5 β v i x = if decide (β.2 3 i = v) = true then x ||| s1 i else x
    unfold fX0_setWhere_o_L5
    by_cases c : β.2 3 i = v
    · rw [if_pos c, if_pos (by simpa using c)]; rfl
    · rw [if_neg c, if_neg (by simpa using c)]) hj
theorem bt_pln {β : BS} (hn : cnt β ≤ 20) (v : Int32) {j : Nat} (hj : j < 32) : bt (fX0_plannedFor β v) j = (decide (j < cnt β) && decide (β.2 4 j = v)) :=
  lpF_set (f := fX0_setWhere_m_L5 β v) (n := cnt β) (c := fun i => decide (β.2 4 i = v)) (by omega) (fun i x _ => by
    show fX0_setWhere_m_L5 β v i x = if decide (β.2 4 i = v) = true then x ||| s1 i else x
    unfold fX0_setWhere_m_L5
    by_cases c : β.2 4 i = v
    · rw [if_pos c, if_pos (by simpa using c)]; rfl
    · rw [if_neg c, if_neg (by simpa using c)]) hj
/-- points of a set, as a sum -/
theorem pts_eq {β μ : BS} (h : AL β μ) {a : Int32} {g : Nat → Int32 → Int32} (hg : ∀ i x, i < cM μ → g i x = if bt a i = true then x + fX7_of μ i 0 else x) : fX0_pointsOfSet β a = lpF g 0 (cM μ) := by
  unfold fX0_pointsOfSet
  rw [h.n]
  refine lpF_congr _ fun i x hi => ?_
  have := h.n20
  rw [hg i x hi, fX0_pointsOfSet_L4, isIn_bt (by omega), h.pt hi]
/-- how many of a set -/
theorem cnt_loop {c : Nat → Bool} {g : Nat → Int32 → Int32} (n : Nat) (hg : ∀ i x, i < n → g i x = if c i = true then x + 1 else x) : lpF g 0 n = nI (pcn c n) := by
  have key : ∀ m, m ≤ n → lpF g 0 m = nI (pcn c m) := by
    intro m
    induction m with
    | zero => intro _; rfl
    | succ m ih =>
      intro hm
      rw [lpF_1, ih (by omega), hg m _ (by omega), pcn]
      by_cases e : c m = true
      · rw [if_pos e, if_pos e]; exact nI_1 _
      · rw [if_neg e, if_neg e]; rfl
  exact key n (Nat.le_refl _)
theorem pcn_cut {c : Nat → Bool} {n : Nat} (hn : n ≤ 20) (h : ∀ i, n ≤ i → i < 20 → c i = false) : pcn c 20 = pcn c n := by
  obtain ⟨k, hk⟩ : ∃ k, 20 = n + k := ⟨20 - n, by omega⟩
  rw [hk, pcn_add, pcn_congr (g := fun _ => false) k (fun i hi => h (n + i) (by omega) (by omega))]
  have : ∀ k, pcn (fun _ => false) k = 0 := by
    intro k
    induction k with
    | zero => rfl
    | succ k ih => rw [pcn, ih]; rfl
  rw [this k, Nat.add_zero]
theorem bc_loop {a : Int32} {n : Nat} (hn : n ≤ 20) (ha : ∀ j, n ≤ j → j < 32 → bt a j = false) {g : Nat → Int32 → Int32} (hg : ∀ i x, i < n → g i x = if bt a i = true then x + 1 else x) : fJ6_bitCount_0f7a4 a = lpF g 0 n := by
  rw [bitCount_eq (fun i h1 h2 => ha i (by omega) h2), cnt_loop n hg, pcn_cut hn (fun i h1 h2 => ha i h1 (by omega))]
theorem bc_bits {a : Int32} {n : Nat} (hn : n ≤ 20) (ha : ∀ j, n ≤ j → j < 32 → bt a j = false) : fJ6_bitCount_0f7a4 a = fX7_bits a := by
  rw [bitCount_eq (fun i h1 h2 => ha i (by omega) h2), bits_eq]
theorem dec_ge {n j : Nat} (h : n ≤ j) (b : Bool) : (decide (j < n) && b) = false := by
  have : decide (j < n) = false := by simp; omega
  rw [this]; rfl
-- sums told by owners, milestones, states
theorem load_eq {β μ : BS} (h : AL β μ) (o : Int32) : fX5_loadOf β o = fX7_load μ o := by
  have hn : cnt β ≤ 20 := by rw [h.n]; exact h.n20
  refine pts_eq h fun i x hi => ?_
  have := h.n20
  rw [bt_and, bt_own hn _ (by omega), bt_unf hn (by omega), h.n, unf_eq h hi, fX7_load_L4]
  simp only [hi, decide_true, Bool.true_and]
  by_cases c : β.2 3 i = o
  · rw [if_pos ((h.owI hi o).mpr c)]
    by_cases c2 : fX7_isLeft μ i = true
    · rw [if_pos c2, if_pos (by simp [c, c2])]
    · rw [if_neg c2, if_neg (by simp [c2]), add_z]
  · rw [if_neg (fun q => c ((h.owI hi o).mp q)), if_neg (by simp [c]), add_z]
theorem leftFor_eq {β μ : BS} (h : AL β μ) (o : Int32) : fX5_leftFor β o = fX7_leftFor μ o := by
  have hn : cnt β ≤ 20 := by rw [h.n]; exact h.n20
  refine pts_eq h fun i x hi => ?_
  have := h.n20
  rw [bt_and, bt_pln hn _ (by omega), bt_unf hn (by omega), h.n, unf_eq h hi, fX7_leftFor_L4]
  simp only [hi, decide_true, Bool.true_and]
  by_cases c : β.2 4 i = o
  · rw [if_pos ((h.msI hi o).mpr c)]
    by_cases c2 : fX7_isLeft μ i = true
    · rw [if_pos c2, if_pos (by simp [c, c2])]
    · rw [if_neg c2, if_neg (by simp [c2]), add_z]
  · rw [if_neg (fun q => c ((h.msI hi o).mp q)), if_neg (by simp [c]), add_z]
theorem doneFor_eq {β μ : BS} (h : AL β μ) (o : Int32) : fX5_doneFor β o = fX7_doneFor μ o := by
  have hn : cnt β ≤ 20 := by rw [h.n]; exact h.n20
  refine pts_eq h fun i x hi => ?_
  have := h.n20
  rw [bt_and, bt_pln hn _ (by omega), bt_inS hn _ (by omega), h.n, h.st hi, fX7_doneFor_L4]
  simp only [hi, decide_true, Bool.true_and]
  by_cases c : β.2 4 i = o
  · rw [if_pos ((h.msI hi o).mpr c)]
    by_cases c2 : fX7_of μ i 2 = 3
    · rw [if_pos c2, if_pos (by simp [c, c2])]
    · rw [if_neg c2, if_neg (by simp [c2]), add_z]
  · rw [if_neg (fun q => c ((h.msI hi o).mp q)), if_neg (by simp [c]), add_z]
theorem doneBy_eq {β μ : BS} (h : AL β μ) (o : Int32) : fX5_doneBy β o = fX7_doneOf μ o := by
  have hn : cnt β ≤ 20 := by rw [h.n]; exact h.n20
  refine pts_eq h fun i x hi => ?_
  have := h.n20
  rw [bt_and, bt_own hn _ (by omega), bt_inS hn _ (by omega), h.n, h.st hi, fX7_doneOf_L4]
  simp only [hi, decide_true, Bool.true_and]
  by_cases c : β.2 3 i = o
  · rw [if_pos ((h.owI hi o).mpr c)]
    by_cases c2 : fX7_of μ i 2 = 3
    · rw [if_pos c2, if_pos (by simp [c, c2])]
    · rw [if_neg c2, if_neg (by simp [c2]), add_z]
  · rw [if_neg (fun q => c ((h.owI hi o).mp q)), if_neg (by simp [c]), add_z]
theorem inprog_eq {β μ : BS} (h : AL β μ) (o : Int32) : fX5_inProgressWith β o = fX7_progressOf μ o := by
  have hn : cnt β ≤ 20 := by rw [h.n]; exact h.n20
  have hm := h.n20
  refine bc_loop hm (fun j h1 h2 => ?_) (fun i x hi => ?_)
  · rw [bt_and, bt_own hn _ h2, h.n, dec_ge h1, Bool.false_and]
  · rw [bt_and, bt_own hn _ (by omega), bt_inS hn _ (by omega), h.n, h.st hi, fX7_progressOf_L4]
    simp only [hi, decide_true, Bool.true_and]
    by_cases c : β.2 3 i = o
    · rw [if_pos ((h.owI hi o).mpr c)]
      by_cases c2 : fX7_of μ i 2 = 1
      · rw [if_pos c2, if_pos (by simp [c, c2])]
      · rw [if_neg c2, if_neg (by simp [c2]), add_z]
    · rw [if_neg (fun q => c ((h.owI hi o).mp q)), if_neg (by simp [c]), add_z]
theorem hundr_eq {β μ : BS} (h : AL β μ) (o : Int32) : fX5_hundredthsFor β o = fX7_hundredths μ o := by
  unfold fX5_hundredthsFor fX7_hundredths
  rw [doneFor_eq h, leftFor_eq h]
theorem late_eq {β μ : BS} (h : AL β μ) {m : Nat} (hm : m < 4) : fX5_isOverdue β m = fX7_late μ m := by
  unfold fX5_isOverdue fX7_late
  rw [leftFor_eq h, h.b.1.2.1, h.b.2.2.1 m hm]
theorem withS_eq {β μ : BS} (h : AL β μ) (v : Int32) : fJ6_bitCount_0f7a4 (fX0_inState β v) = fX7_sumWith μ v false := by
  have hn : cnt β ≤ 20 := by rw [h.n]; exact h.n20
  have hm := h.n20
  refine bc_loop hm (fun j h1 h2 => ?_) (fun i x hi => ?_)
  · rw [bt_inS hn _ h2, h.n, dec_ge h1]
  · rw [bt_inS hn _ (by omega), h.n, h.st hi, fX7_sumWith_L5]
    simp only [hi, decide_true, Bool.true_and]
    by_cases c : fX7_of μ i 2 = v
    · rw [if_pos c, if_neg (by decide), if_pos (by simp [c])]
    · rw [if_neg c, if_neg (by simp [c]), add_z]
theorem ptsS_eq {β μ : BS} (h : AL β μ) (v : Int32) : fX0_pointsOfSet β (fX0_inState β v) = fX7_sumWith μ v true := by
  have hn : cnt β ≤ 20 := by rw [h.n]; exact h.n20
  have hm := h.n20
  refine pts_eq h fun i x hi => ?_
  rw [bt_inS hn _ (by omega), h.n, h.st hi, fX7_sumWith_L5]
  simp only [hi, decide_true, Bool.true_and]
  by_cases c : fX7_of μ i 2 = v
  · rw [if_pos c, if_pos True.intro, if_pos (by simp [c])]
  · rw [if_neg c, if_neg (by simp [c]), add_z]
theorem week_eq {β μ : BS} (h : AL β μ) : fX5_closedInWeek β = fX7_week μ := by
  unfold fX5_closedInWeek fX7_week
  rw [h.n]
  refine lpF_congr _ fun i x hi => ?_
  unfold fX5_closedInWeek_L4 fX7_week_L4
  rw [h.st hi, h.pt hi, h.b.1.2.1]
  by_cases c : fX7_of μ i 2 = 3
  · rw [if_pos c, if_pos c, h.cl hi c, add_z]
  · rw [if_neg c, if_neg c, add_z]
theorem blockedMany_eq {β μ : BS} (h : AL β μ) : fX5_blockedAndUnfinished β = fX7_blockedMany μ := by
  unfold fX5_blockedAndUnfinished fX7_blockedMany
  rw [blocked_eq h, unfSet_eq h]
  exact bc_bits h.n20 fun j h1 h2 => by rw [bt_and, bt_left h.n20 h2, dec_ge h1, Bool.and_false]
theorem mean_sums {β μ : BS} (h : AL β μ) : (lpF (fX5_meanProgress_L6 β) (0, 0) (cM μ)).1 = (lpF (fX7_mean_L6 μ) (0, 0) (cM μ)).2 ∧ (lpF (fX5_meanProgress_L6 β) (0, 0) (cM μ)).2 = (lpF (fX7_mean_L6 μ) (0, 0) (cM μ)).1 := by
  refine lpF_rel (P := fun _ (x y : Int32 × Int32) => x.1 = y.2 ∧ x.2 = y.1) ⟨rfl, rfl⟩ (cM μ) fun i x y hi hxy => ?_
  unfold fX5_meanProgress_L6 fX7_mean_L6
  rw [h.st hi, h.pd hi]
  by_cases c : fX7_of μ i 2 = 3
  · rw [if_pos c, if_pos c]; exact ⟨by rw [hxy.1], by rw [hxy.2]⟩
  · rw [if_neg c, if_neg c]; exact ⟨hxy.1.trans (add_z _).symm, hxy.2.trans (add_z _).symm⟩
theorem mean_eq {β μ : BS} (h : AL β μ) : fX5_meanProgress β = fX7_mean μ := by
  unfold fX5_meanProgress fX7_mean
  rw [h.n, (mean_sums h).1, (mean_sums h).2]
theorem acct_eq {β μ : BS} (h : AL β μ) {o : Nat} (ho : o < 5) : β.2 11 o = fX7_load μ (nI o) := h.b.2.2.2.2.2.2.1 o ho
theorem freest_eq {β μ : BS} (h : AL β μ) : fX5_ownerWithMostLeft β = fX7_freest μ := by
  refine (lpF_congrP (P := fun x => ∃ j : Nat, j < 5 ∧ x = nI j) ⟨0, by decide, rfl⟩ 4 fun i x hi hx => ?_).1
  obtain ⟨j, hj, rfl⟩ := hx
  unfold fX5_ownerWithMostLeft_L4 fX7_freest_L4 fX5_capacityLeft
  rw [nI_clamp (by omega), h.b.2.1 (i + 1) (by omega), h.b.2.1 j hj, acct_eq h (show i + 1 < 5 by omega), acct_eq h hj]
  refine ⟨rfl, ?_⟩
  split
  · exact ⟨j, hj, rfl⟩
  · exact ⟨i + 1, by omega, rfl⟩
theorem ahead_eq {β μ : BS} (h : AL β μ) {t u : Nat} (ht : t < cM μ) (hu : u < cM μ) : fX1_comesBefore β t u = fX7_isAhead μ t u := by
  unfold fX1_comesBefore fX7_isAhead
  rw [h.pr ht, h.pr hu, h.pt ht, h.pt hu]
theorem firstOf_eq {β μ : BS} (h : AL β μ) (a : Int32) : fX1_firstOf β a = fX7_firstOf μ a ∧ (fX7_firstOf μ a = -1 ∨ ∃ j : Nat, j < cM μ ∧ fX7_firstOf μ a = nI j) := by
  unfold fX1_firstOf fX7_firstOf
  rw [h.n]
  have := h.n20
  refine lpF_congrP (P := fun x => x = -1 ∨ ∃ j : Nat, j < cM μ ∧ x = nI j) (Or.inl rfl) (cM μ) fun i x hi hx => ?_
  unfold fX1_firstOf_L4 fX7_firstOf_L4
  rw [isIn_bt (by omega)]
  have hP : (if bt a i = true then (if x = -1 then nI i else (if fX7_isAhead μ i x.toNatClampNeg = true then nI i else x)) else x) = -1 ∨ ∃ j : Nat, j < cM μ ∧ (if bt a i = true then (if x = -1 then nI i else (if fX7_isAhead μ i x.toNatClampNeg = true then nI i else x)) else x) = nI j := by
    by_cases c : bt a i = true
    · rw [if_pos c]
      by_cases c2 : x = -1
      · rw [if_pos c2]; exact Or.inr ⟨i, hi, rfl⟩
      · rw [if_neg c2]
        split
        · exact Or.inr ⟨i, hi, rfl⟩
        · exact hx
    · rw [if_neg c]; exact hx
  by_cases c : bt a i = true
  · rw [if_pos c] at hP ⊢
    rw [if_pos ((bt_ask1 (by omega)).mpr c)]
    refine ⟨?_, hP⟩
    by_cases c2 : x = -1
    · rw [if_pos c2, if_pos c2]
    · rw [if_neg c2, if_neg c2]
      rcases hx with hx | ⟨j, hj, rfl⟩
      · exact absurd hx c2
      · rw [nI_clamp (by omega), ahead_eq h hi hj]
  · rw [if_neg c] at hP ⊢
    rw [if_neg (fun q => c ((bt_ask1 (by omega)).mp q))]
    exact ⟨rfl, hP⟩
theorem next_eq {β μ : BS} (h : AL β μ) : fX1_nextOpen β = fX7_next μ := by
  unfold fX1_nextOpen fX7_next
  have hn : cnt β ≤ 20 := by rw [h.n]; exact h.n20
  have hm := h.n20
  have e : fX0_inState β 0 &&& (fX0_blockedSet β ^^^ -1) = lpF (fX7_next_L4 μ) 0 (cM μ) := bt_ext fun j hj => by
    rw [bt_and, bt_inS hn _ hj, bt_not _ hj, blocked_eq h, bt_blocked h.n20 hj, h.n]
    rw [lpF_set (c := fun i => decide (fX7_of μ i 2 = 0) && decide (fX7_blockers μ i = 0)) (by omega) (fun i x hi => by
      unfold fX7_next_L4
      by_cases c : fX7_of μ i 2 = 0
      · rw [if_pos c]
        by_cases c2 : fX7_blockers μ i = 0
        · rw [if_pos c2, if_pos (by simp [c, c2])]; rfl
        · rw [if_neg c2, if_neg (by simp [c2]), or_z]
      · rw [if_neg c, if_neg (by simp [c]), or_z]) hj]
    by_cases c : j < cM μ
    · rw [h.st c]; simp [c]
    · simp [c]
  rw [e]
  exact (firstOf_eq h _).1
theorem hasTicket_eq {β μ : BS} (h : AL β μ) (t : Int32) : fX0_hasTicket β t = fX7_isTicket μ t := by
  unfold fX0_hasTicket fX7_isTicket fX7_in
  by_cases c : t < 0
  · rw [if_pos c, if_pos c]
  · rw [if_neg c, if_neg c]
    obtain ⟨j, hj, rfl⟩ := nI_of c
    have hn := h.n20
    rw [h.b.1.1, h.f0]
    rcases Nat.eq_zero_or_pos (cM μ) with e | e
    · rw [e, if_pos (nI_le (Nat.zero_le _) hj), if_pos]
      rw [show (nI 0 - 1 : Int32) = -1 from by decide, Int32.lt_iff_toInt_lt, nI_toInt hj, show (-1 : Int32).toInt = -1 from by decide]
      omega
    · obtain ⟨d, hd⟩ : ∃ d, cM μ = d + 1 := ⟨cM μ - 1, by omega⟩
      rw [hd, nI_pred]
      by_cases c2 : d < j
      · rw [if_pos ((nI_leI (by omega) hj).mpr (by omega)), if_pos ((nI_ltI (by omega) hj).mpr c2)]
      · rw [if_neg (fun q => c2 ((nI_leI (by omega) hj).mp q)), if_neg (fun q => c2 ((nI_ltI (by omega) hj).mp q))]
theorem isTicket_n {β μ : BS} (h : AL β μ) {t : Int32} (c : fX7_isTicket μ t = true) : t = nI t.toNatClampNeg ∧ t.toNatClampNeg < cM μ := by
  have h1 := within_pred (a := t) h.f0 h.n20 c
  exact h1
theorem lpF_any {f : Nat → Bool → Bool} {c : Nat → Bool} (n : Nat) (h : ∀ i x, i < n → f i x = (x || c i)) : lpF f false n = true ↔ ∃ i, i < n ∧ c i = true := by
  have key : ∀ m, m ≤ n → (lpF f false m = true ↔ ∃ i, i < m ∧ c i = true) := by
    intro m
    induction m with
    | zero => intro _; rw [lpF_0]; exact ⟨fun q => (by cases q), fun ⟨i, hi, _⟩ => absurd hi (by omega)⟩
    | succ m ih =>
      intro hm
      rw [lpF_1, h m _ (by omega), Bool.or_eq_true, ih (by omega)]
      constructor
      · rintro (⟨i, hi, h1⟩ | h1)
        · exact ⟨i, by omega, h1⟩
        · exact ⟨m, by omega, h1⟩
      · rintro ⟨i, hi, h1⟩
        by_cases e : i = m
        · subst e; exact Or.inr h1
        · exact Or.inl ⟨i, by omega, h1⟩
  exact key n (Nat.le_refl _)
theorem nz_bt {x : Int32} : ¬ x = 0 ↔ ∃ i, i < 32 ∧ bt x i = true := by
  constructor
  · intro h
    by_cases q : ∃ i, i < 32 ∧ bt x i = true
    · exact q
    · refine absurd (bt_z.mpr fun i hi => ?_) h
      by_cases c : bt x i = true
      · exact absurd ⟨i, hi, c⟩ q
      · exact tf_of c
  · rintro ⟨i, hi, h⟩ e
    rw [bt_z.mp e i hi] at h
    cases h
theorem plnBy_eq {β μ : BS} (h : AL β μ) {u m : Nat} (hu : u < cM μ) (hm : m < 4) : bt (fX5_plannedBy β (β.2 12 m)) u = !fX7_isBehind μ u m := by
  have hn : cnt β ≤ 20 := by rw [h.n]; exact h.n20
  have hc := h.n20
  have hor : bt (fX5_plannedBy β (β.2 12 m)) u = true ↔ ∃ i, i < 4 ∧ ¬ β.2 12 m < β.2 12 i ∧ β.2 4 u = nI i := by
    unfold fX5_plannedBy
    rw [lpF_or (s := fun i => if β.2 12 m < β.2 12 i then 0 else fX0_plannedFor β (nI i)) (fun i x hi => by
      unfold fX5_plannedBy_L4
      by_cases c : β.2 12 m < β.2 12 i
      · rw [if_pos c, if_pos c, or_z]
      · rw [if_neg c, if_neg c])]
    rw [bt_0]
    constructor
    · rintro (q | ⟨i, hi, q⟩)
      · cases q
      · by_cases c : β.2 12 m < β.2 12 i
        · rw [if_pos c, bt_0] at q; cases q
        · rw [if_neg c, bt_pln hn _ (by omega), Bool.and_eq_true] at q
          exact ⟨i, hi, c, by simpa using q.2⟩
    · rintro ⟨i, hi, c, q⟩
      refine Or.inr ⟨i, hi, ?_⟩
      rw [if_neg c, bt_pln hn _ (by omega), h.n]
      simp [hu, q]
  obtain ⟨k, hk, ek⟩ := (h.2.1.2.2 u (by omega)).2
  have ek : fX7_of μ u 4 = nI k := ek
  unfold fX7_isBehind
  rcases Nat.eq_zero_or_pos k with e | e
  · subst e
    rw [if_pos (show fX7_of μ u 4 = 0 from ek)]
    refine tf_of fun q => ?_
    obtain ⟨i, hi, -, q2⟩ := hor.mp q
    have := (h.msI hu (nI i)).mpr q2
    rw [ek, nI_1, nI_eq (by omega) (by omega)] at this
    omega
  · obtain ⟨j, rfl⟩ : ∃ j, k = j + 1 := ⟨k - 1, by omega⟩
    have e4 : β.2 4 u = nI j := (h.msI hu (nI j)).mp (by rw [ek, nI_1])
    rw [if_neg (by rw [ek]; exact nI_ne0 (by omega) (by omega)), ek, nI_clamp (by omega), show (9 + (j + 1)) - 1 = 9 + j from by omega]
    rw [h.b.2.2.1 m hm] at hor
    have e9 := h.b.2.2.1 j (by omega)
    by_cases c : μ.2 0 (9 + j) ≤ μ.2 0 (9 + m)
    · rw [if_pos c]
      show bt _ _ = true
      rw [h.b.2.2.1 m hm]
      exact hor.mpr ⟨j, by omega, by rw [e9]; exact Int32.not_lt.mpr c, e4⟩
    · rw [if_neg c]
      show bt _ _ = false
      rw [h.b.2.2.1 m hm]
      refine tf_of fun q => ?_
      obtain ⟨i, hi, q1, q2⟩ := hor.mp q
      rw [e4, nI_eq (by omega) (by omega)] at q2
      subst q2
      rw [e9] at q1
      exact c (Int32.not_lt.mp q1)
theorem mispl_eq {β μ : BS} (h : AL β μ) {m : Nat} (hm : m < 4) : fX5_plannedTooEarly β m = fX7_misplannedOf μ m := by
  have hn : cnt β ≤ 20 := by rw [h.n]; exact h.n20
  have hc := h.n20
  unfold fX5_plannedTooEarly fX7_misplannedOf
  refine bc_loop hc (fun j h1 h2 => ?_) (fun i x hi => ?_)
  · rw [bt_and, bt_ttna hn _ h2, h.n, dec_ge h1, Bool.false_and]
  · have inner : lpF (fX7_misplannedOf_L20 μ m i x) false (cM μ) = true ↔ ∃ u, u < cM μ ∧ (bt (fX7_blockers μ i) u && fX7_isBehind μ u m) = true := by
      refine lpF_any _ fun u y hu => ?_
      unfold fX7_misplannedOf_L20
      cases y with
      | true => rfl
      | false =>
        rw [if_neg (by decide), Bool.false_or]
        by_cases c : bt (fX7_blockers μ i) u = true
        · rw [if_pos ((bt_ask1 (by omega)).mpr c), c, Bool.true_and]
          cases fX7_isBehind μ u m <;> rfl
        · rw [if_neg (fun q => c ((bt_ask1 (by omega)).mp q)), tf_of c, Bool.false_and]
    have hb : ∀ u, u < cM μ → bt (fX7_blockers μ i) u = (bt (β.2 9 i) u && fX7_isLeft μ u) := fun u hu => by
      unfold fX7_blockers
      rw [bt_and, bt_left hc (by omega), h.nd hi]
      simp [hu]
    have e1 : decide (¬ (β.2 9 i) &&& (fX0_unfinishedSet β &&& (fX5_plannedBy β (β.2 12 m) ^^^ -1)) = 0) = lpF (fX7_misplannedOf_L20 μ m i x) false (cM μ) := by
      refine Bool.eq_iff_iff.mpr ?_
      rw [inner, decide_eq_true_eq, nz_bt]
      constructor
      · rintro ⟨u, hu, q⟩
        rw [bt_and, bt_and, bt_not _ hu, unfSet_eq h, bt_left hc hu, Bool.and_eq_true, Bool.and_eq_true, Bool.and_eq_true] at q
        obtain ⟨q1, ⟨q2, q3⟩, q4⟩ := q
        have hu2 : u < cM μ := by simpa using q2
        refine ⟨u, hu2, ?_⟩
        rw [hb u hu2, q1, q3]
        rw [plnBy_eq h hu2 hm] at q4
        simpa using q4
      · rintro ⟨u, hu, q⟩
        refine ⟨u, by omega, ?_⟩
        rw [hb u hu, Bool.and_eq_true, Bool.and_eq_true] at q
        rw [bt_and, bt_and, bt_not _ (by omega), unfSet_eq h, bt_left hc (by omega), plnBy_eq h hu hm, q.1.1, q.1.2, q.2]
        simp [hu]
    rw [bt_and, bt_and, bt_ttna hn _ (by omega), h.n, e1, bt_pln hn _ (by omega), h.n, bt_unf hn (by omega), h.n, unf_eq h hi, fX7_misplannedOf_L4]
    simp only [hi, decide_true, Bool.true_and]
    by_cases c0 : lpF (fX7_misplannedOf_L20 μ m i x) false (cM μ) = true
    · rw [if_pos c0, c0]
      by_cases c : β.2 4 i = nI m
      · rw [if_pos ((h.msI hi (nI m)).mpr c)]
        by_cases c2 : fX7_isLeft μ i = true
        · rw [if_pos c2, if_pos (by simp [c, c2])]
        · rw [if_neg c2, if_neg (by simp [c2]), add_z]
      · rw [if_neg (fun q => c ((h.msI hi (nI m)).mp q)), if_neg (by simp [c]), add_z]
    · rw [if_neg c0, if_neg (by simp [c0]), add_z]
theorem sumW_c (μ : BS) (v z : Int32) (b : Bool) : fX7_sumWith (sI μ 0 v) z b = fX7_sumWith μ z b := rfl
theorem bt_all {i : Nat} (hi : i < 20) : bt 1048575 i = true := by
  rw [show (1048575 : Int32) = nI 1048575 from rfl, bt_small (by omega), show (1048575 : Nat) = 2 ^ 20 - 1 from rfl, Nat.testBit_two_pow_sub_one]
  simpa using hi
theorem allPts_eq {β μ : BS} (h : AL β μ) : fX0_pointsOfSet β 1048575 = lpF (fX7_allPoints_L9 μ) 0 5 := by
  have hc := h.n20
  have e1 : fX0_pointsOfSet β 1048575 = lpF (fun i x => x + fX7_of μ i 0) 0 (cM μ) := pts_eq h fun i x hi => by rw [if_pos (bt_all (by omega))]
  have e2 : lpF (fX7_allPoints_L9 μ) 0 5 = 0 + fX7_sumWith μ (nI 0) true + fX7_sumWith μ (nI 1) true + fX7_sumWith μ (nI 2) true + fX7_sumWith μ (nI 3) true + fX7_sumWith μ (nI 4) true := rfl
  rw [e1, e2]
  have key : ∀ m, m ≤ cM μ → lpF (fun i x => x + fX7_of μ i 0) 0 m = 0 + lpF (fX7_sumWith_L5 μ (nI 0) true) 0 m + lpF (fX7_sumWith_L5 μ (nI 1) true) 0 m + lpF (fX7_sumWith_L5 μ (nI 2) true) 0 m + lpF (fX7_sumWith_L5 μ (nI 3) true) 0 m + lpF (fX7_sumWith_L5 μ (nI 4) true) 0 m := by
    intro m
    induction m with
    | zero => intro _; rfl
    | succ m ih =>
      intro hm
      obtain ⟨s, hs, es⟩ := h.sv (show m < cM μ by omega)
      simp only [lpF_1]
      rw [ih (by omega)]
      have hL : ∀ k x, k < 5 → fX7_sumWith_L5 μ (nI k) true m x = if s = k then x + fX7_of μ m 0 else x := by
        intro k x hk
        unfold fX7_sumWith_L5
        rw [es]
        by_cases c : s = k
        · subst c; rw [if_pos rfl, if_pos rfl, if_pos rfl]
        · rw [if_neg (fun q => c ((nI_eq (by omega) (by omega)).mp q)), if_neg c, add_z]
      rw [hL 0 _ (by decide), hL 1 _ (by decide), hL 2 _ (by decide), hL 3 _ (by decide), hL 4 _ (by decide)]
      rcases (show s = 0 ∨ s = 1 ∨ s = 2 ∨ s = 3 ∨ s = 4 by omega) with rfl | rfl | rfl | rfl | rfl <;> first | (simp only [Nat.reduceEqDiff, reduceIte]; ac_rfl) | (simp; ac_rfl) | simp
  exact key _ (Nat.le_refl _)
