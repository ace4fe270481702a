/-! ===== a board and a row that tell the same tracker ===== -/
def tk (f : Nat → Int32) (t w : Nat) : Int32 := f ((13 + (10 * t)) + w)
def nT (f : Nat → Int32) : Nat := (f 0).toNatClampNeg
def dyT (f : Nat → Int32) : Nat := (f 1).toNatClampNeg
/-- the reference's state that has this row -/
def rw9 (f : Nat → Int32) : BS := (fun _ => 0, fun _ => f)
def RT (β : BS) (f : Nat → Int32) (t : Nat) : Prop := β.2 0 t = tk f t 2 ∧ β.2 1 t = tk f t 0 ∧ β.2 2 t = tk f t 1 ∧ β.2 3 t + 1 = tk f t 3 ∧ β.2 4 t + 1 = tk f t 4 ∧ β.2 5 t = tk f t 5 ∧ (tk f t 2 = 3 → β.2 6 t = tk f t 6) ∧ β.2 7 t = tk f t 7 ∧ β.2 8 t = tk f t 8 ∧ β.2 9 t = tk f t 9
def WT (f : Nat → Int32) (t : Nat) : Prop := (∃ s : Nat, s < 5 ∧ tk f t 2 = nI s) ∧ (∃ p : Nat, 1 ≤ p ∧ p ≤ 13 ∧ tk f t 0 = nI p) ∧ (∃ d : Nat, d ≤ dyT f ∧ tk f t 7 = nI d) ∧ ∀ j, nT f ≤ j → j < 32 → bt (tk f t 9) j = false
def Ed (f : Nat → Int32) (a b : Nat) : Prop := a < nT f ∧ b < 32 ∧ bt (tk f a 9) b = true
def Acy (f : Nat → Int32) : Prop := ∃ r : Nat → Nat, ∀ a b, Ed f a b → r b < r a
def RB (β : BS) (f : Nat → Int32) : Prop :=
  (β.1 0 = f 0 ∧ β.1 1 = f 1 ∧ β.1 2 = f 2 ∧ β.1 3 = f 3) ∧ (∀ o, o < 5 → β.2 10 o = f (4 + o)) ∧ (∀ m, m < 4 → β.2 12 m = f (9 + m)) ∧ (∀ t, t < nT f → RT β f t ∧ WT f t) ∧ (∀ t, nT f ≤ t → t < 20 → ∀ w, w < 10 → tk f t w = 0) ∧ Acy f ∧ (∀ o, o < 5 → β.2 11 o = fX7_load (rw9 f) (nI o)) ∧ (f 1 = nI (dyT f) ∧ dyT f ≤ 999)
def AL (β μ : BS) : Prop := vB β ∧ vS (μ.2 0) ∧ RB β (μ.2 0)
theorem AL.b {β μ : BS} (h : AL β μ) : RB β (μ.2 0) := h.2.2
theorem AL.n {β μ : BS} (h : AL β μ) : cnt β = cM μ := congrArg Int32.toNatClampNeg h.b.1.1
theorem AL.n20 {β μ : BS} (h : AL β μ) : cM μ ≤ 20 := h.2.1.1
theorem AL.f0 {β μ : BS} (h : AL β μ) : μ.2 0 0 = nI (cM μ) := h.2.1.2.1
theorem AL.rt {β μ : BS} (h : AL β μ) {t : Nat} (ht : t < cM μ) : RT β (μ.2 0) t := (h.b.2.2.2.1 t ht).1
theorem AL.wt {β μ : BS} (h : AL β μ) {t : Nat} (ht : t < cM μ) : WT (μ.2 0) t := (h.b.2.2.2.1 t ht).2
theorem AL.st {β μ : BS} (h : AL β μ) {t : Nat} (ht : t < cM μ) : β.2 0 t = fX7_of μ t 2 := (h.rt ht).1
theorem AL.pt {β μ : BS} (h : AL β μ) {t : Nat} (ht : t < cM μ) : β.2 1 t = fX7_of μ t 0 := (h.rt ht).2.1
theorem AL.pr {β μ : BS} (h : AL β μ) {t : Nat} (ht : t < cM μ) : β.2 2 t = fX7_of μ t 1 := (h.rt ht).2.2.1
theorem AL.ow {β μ : BS} (h : AL β μ) {t : Nat} (ht : t < cM μ) : β.2 3 t + 1 = fX7_of μ t 3 := (h.rt ht).2.2.2.1
theorem AL.ms {β μ : BS} (h : AL β μ) {t : Nat} (ht : t < cM μ) : β.2 4 t + 1 = fX7_of μ t 4 := (h.rt ht).2.2.2.2.1
theorem AL.op {β μ : BS} (h : AL β μ) {t : Nat} (ht : t < cM μ) : β.2 5 t = fX7_of μ t 5 := (h.rt ht).2.2.2.2.2.1
theorem AL.cl {β μ : BS} (h : AL β μ) {t : Nat} (ht : t < cM μ) (h3 : fX7_of μ t 2 = 3) : β.2 6 t = fX7_of μ t 6 := (h.rt ht).2.2.2.2.2.2.1 h3
theorem AL.pd {β μ : BS} (h : AL β μ) {t : Nat} (ht : t < cM μ) : β.2 7 t = fX7_of μ t 7 := (h.rt ht).2.2.2.2.2.2.2.1
theorem AL.pb {β μ : BS} (h : AL β μ) {t : Nat} (ht : t < cM μ) : β.2 8 t = fX7_of μ t 8 := (h.rt ht).2.2.2.2.2.2.2.2.1
theorem AL.nd {β μ : BS} (h : AL β μ) {t : Nat} (ht : t < cM μ) : β.2 9 t = fX7_of μ t 9 := (h.rt ht).2.2.2.2.2.2.2.2.2
theorem AL.sv {β μ : BS} (h : AL β μ) {t : Nat} (ht : t < cM μ) : ∃ s : Nat, s < 5 ∧ fX7_of μ t 2 = nI s := (h.wt ht).1
theorem AL.nb {β μ : BS} (h : AL β μ) {t : Nat} (ht : t < cM μ) {j : Nat} (h1 : cM μ ≤ j) (h2 : j < 32) : bt (fX7_of μ t 9) j = false := (h.wt ht).2.2.2 j h1 h2
theorem i32_add_r {x y z : Int32} : x + z = y + z ↔ x = y := by
  constructor
  · intro h
    have h2 : x + z - z = y + z - z := by rw [h]
    simpa using h2
  · intro h; rw [h]
theorem AL.owI {β μ : BS} (h : AL β μ) {t : Nat} (ht : t < cM μ) (o : Int32) : fX7_of μ t 3 = o + 1 ↔ β.2 3 t = o := by rw [← h.ow ht]; exact i32_add_r
theorem AL.msI {β μ : BS} (h : AL β μ) {t : Nat} (ht : t < cM μ) (o : Int32) : fX7_of μ t 4 = o + 1 ↔ β.2 4 t = o := by rw [← h.ms ht]; exact i32_add_r
theorem AL.ow0 {β μ : BS} (h : AL β μ) {t : Nat} (ht : t < cM μ) : fX7_of μ t 3 = 0 ↔ β.2 3 t = -1 := by rw [← h.ow ht]; exact (show β.2 3 t + 1 = 0 ↔ β.2 3 t = -1 from (show ((0 : Int32) = -1 + 1) by decide) ▸ i32_add_r)
theorem AL.ms0 {β μ : BS} (h : AL β μ) {t : Nat} (ht : t < cM μ) : fX7_of μ t 4 = 0 ↔ β.2 4 t = -1 := by rw [← h.ms ht]; exact (show β.2 4 t + 1 = 0 ↔ β.2 4 t = -1 from (show ((0 : Int32) = -1 + 1) by decide) ▸ i32_add_r)
theorem tf_of {b : Bool} (h : ¬ b = true) : b = false := by simpa using h
theorem unf_cases : ∀ s : Fin 5, (if nI s.1 = 3 then false else (if nI s.1 = 4 then false else true)) = (if 3 ≤ nI s.1 then false else true) := by decide
theorem unf_eq {β μ : BS} (h : AL β μ) {t : Nat} (ht : t < cM μ) : fX0_isUnfinished β t = fX7_isLeft μ t := by
  unfold fX0_isUnfinished fX7_isLeft
  obtain ⟨s, hs, e⟩ := h.sv ht
  rw [h.st ht, e]
  exact unf_cases ⟨s, hs⟩
theorem bt_unf {β : BS} (hn : cnt β ≤ 20) {j : Nat} (hj : j < 32) : bt (fX0_unfinishedSet β) j = (decide (j < cnt β) && fX0_isUnfinished β j) :=
  lpF_set (by omega) (fun i x _ => rfl) hj
theorem bt_ttna {β : BS} (hn : cnt β ≤ 20) (a : Int32) {j : Nat} (hj : j < 32) : bt (fX0_thoseThatNeedAny β a) j = (decide (j < cnt β) && decide (¬ (β.2 9 j) &&& a = 0)) :=
  lpF_set (f := fX0_thoseThatNeedAny_L4 β a) (n := cnt β) (c := fun i => decide (¬ (β.2 9 i) &&& a = 0)) (by omega) (fun i x _ => by
    show fX0_thoseThatNeedAny_L4 β a i x = if decide (¬ (β.2 9 i) &&& a = 0) = true then x ||| s1 i else x
    unfold fX0_thoseThatNeedAny_L4
    by_cases c : (β.2 9 i) &&& a = 0
    · rw [if_pos c, if_neg (by simpa using c)]
    · rw [if_neg c, if_pos (by simpa using c)]; rfl) hj
theorem bt_inS {β : BS} (hn : cnt β ≤ 20) (v : Int32) {j : Nat} (hj : j < 32) : bt (fX0_inState β v) j = (decide (j < cnt β) && decide (β.2 0 j = v)) :=
  lpF_set (f := fX0_setWhere_s_L5 β v) (n := cnt β) (c := fun i => decide (β.2 0 i = v)) (by omega) (fun i x _ => by
    show fX0_setWhere_s_L5 β v i x = if decide (β.2 0 i = v) = true then x ||| s1 i else x
    unfold fX0_setWhere_s_L5
    by_cases c : β.2 0 i = v
    · rw [if_pos c, if_pos (by simpa using c)]; rfl
    · rw [if_neg c, if_neg (by simpa using c)]) hj
theorem bt_own {β : BS} (hn : cnt β ≤ 20) (v : Int32) {j : Nat} (hj : j < 32) : bt (fX0_ownedBy β v) j = (decide (j < cnt β) && decide (β.2 3 j = v)) :=
  lpF_set (f := fX0_setWhere_o_L5 β v) (n := cnt β) (c := fun i => decide (β.2 3 i = v)) (by omega) (fun i x _ => by
    show fX0_setWhere_o_L5 β v i x = if decide (β.2 3 i = v) = true then x ||| s1 i else x
    unfold fX0_setWhere_o_L5
    by_cases c : β.2 3 i = v
    · rw [if_pos c, if_pos (by simpa using c)]; rfl
    · rw [if_neg c, if_neg (by simpa using c)]) hj
/-- points of a set, as a sum -/
theorem pts_eq {β μ : BS} (h : AL β μ) {a : Int32} {g : Nat → Int32 → Int32} (hg : ∀ i x, i < cM μ → g i x = if bt a i = true then x + fX7_of μ i 0 else x) : fX0_pointsOfSet β a = lpF g 0 (cM μ) := by
  unfold fX0_pointsOfSet
  rw [h.n]
  refine lpF_congr _ fun i x hi => ?_
  have := h.n20
  rw [hg i x hi, fX0_pointsOfSet_L4, isIn_bt (by omega), h.pt hi]
/-- how many of a set -/
theorem cnt_loop {c : Nat → Bool} {g : Nat → Int32 → Int32} (n : Nat) (hg : ∀ i x, i < n → g i x = if c i = true then x + 1 else x) : lpF g 0 n = nI (pcn c n) := by
  have key : ∀ m, m ≤ n → lpF g 0 m = nI (pcn c m) := by
    intro m
    induction m with
    | zero => intro _; rfl
    | succ m ih =>
      intro hm
      rw [lpF_1, ih (by omega), hg m _ (by omega), pcn]
      by_cases e : c m = true
      · rw [if_pos e, if_pos e]; exact nI_1 _
      · rw [if_neg e, if_neg e]; rfl
  exact key n (Nat.le_refl _)
theorem pcn_cut {c : Nat → Bool} {n : Nat} (hn : n ≤ 20) (h : ∀ i, n ≤ i → i < 20 → c i = false) : pcn c 20 = pcn c n := by
  obtain ⟨k, hk⟩ : ∃ k, 20 = n + k := ⟨20 - n, by omega⟩
  rw [hk, pcn_add, pcn_congr (g := fun _ => false) k (fun i hi => h (n + i) (by omega) (by omega))]
  have : ∀ k, pcn (fun _ => false) k = 0 := by
    intro k
    induction k with
    | zero => rfl
    | succ k ih => rw [pcn, ih]; rfl
  rw [this k, Nat.add_zero]
theorem bc_loop {a : Int32} {n : Nat} (hn : n ≤ 20) (ha : ∀ j, n ≤ j → j < 32 → bt a j = false) {g : Nat → Int32 → Int32} (hg : ∀ i x, i < n → g i x = if bt a i = true then x + 1 else x) : fJ6_bitCount_0f7a4 a = lpF g 0 n := by
  rw [bitCount_eq (fun i h1 h2 => ha i (by omega) h2), cnt_loop n hg, pcn_cut hn (fun i h1 h2 => ha i h1 (by omega))]
theorem bc_bits {a : Int32} {n : Nat} (hn : n ≤ 20) (ha : ∀ j, n ≤ j → j < 32 → bt a j = false) : fJ6_bitCount_0f7a4 a = fX7_bits a := by
  rw [bitCount_eq (fun i h1 h2 => ha i (by omega) h2), bits_eq]
theorem dec_ge {n j : Nat} (h : n ≤ j) (b : Bool) : (decide (j < n) && b) = false := by
  have : decide (j < n) = false := by simp; omega
  rw [this]; rfl
-- sums told by owners, milestones, states
theorem load_eq {β μ : BS} (h : AL β μ) (o : Int32) : fX5_loadOf β o = fX7_load μ o := by
  have hn : cnt β ≤ 20 := by rw [h.n]; exact h.n20
  refine pts_eq h fun i x hi => ?_
  have := h.n20
  rw [bt_and, bt_own hn _ (by omega), bt_unf hn (by omega), h.n, unf_eq h hi, fX7_load_L4]
  simp only [hi, decide_true, Bool.true_and]
  by_cases c : β.2 3 i = o
  · rw [if_pos ((h.owI hi o).mpr c)]
    by_cases c2 : fX7_isLeft μ i = true
    · rw [if_pos c2, if_pos (by simp [c, c2])]
    · rw [if_neg c2, if_neg (by simp [c2]), add_z]
  · rw [if_neg (fun q => c ((h.owI hi o).mp q)), if_neg (by simp [c]), add_z]
theorem withS_eq {β μ : BS} (h : AL β μ) (v : Int32) : fJ6_bitCount_0f7a4 (fX0_inState β v) = fX7_sumWith μ v false := by
  have hn : cnt β ≤ 20 := by rw [h.n]; exact h.n20
  have hm := h.n20
  refine bc_loop hm (fun j h1 h2 => ?_) (fun i x hi => ?_)
  · rw [bt_inS hn _ h2, h.n, dec_ge h1]
  · rw [bt_inS hn _ (by omega), h.n, h.st hi, fX7_sumWith_L5]
    simp only [hi, decide_true, Bool.true_and]
    by_cases c : fX7_of μ i 2 = v
    · rw [if_pos c, if_neg (by decide), if_pos (by simp [c])]
    · rw [if_neg c, if_neg (by simp [c]), add_z]
theorem ptsS_eq {β μ : BS} (h : AL β μ) (v : Int32) : fX0_pointsOfSet β (fX0_inState β v) = fX7_sumWith μ v true := by
  have hn : cnt β ≤ 20 := by rw [h.n]; exact h.n20
  have hm := h.n20
  refine pts_eq h fun i x hi => ?_
  rw [bt_inS hn _ (by omega), h.n, h.st hi, fX7_sumWith_L5]
  simp only [hi, decide_true, Bool.true_and]
  by_cases c : fX7_of μ i 2 = v
  · rw [if_pos c, if_pos True.intro, if_pos (by simp [c])]
  · rw [if_neg c, if_neg (by simp [c]), add_z]
theorem acct_eq {β μ : BS} (h : AL β μ) {o : Nat} (ho : o < 5) : β.2 11 o = fX7_load μ (nI o) := h.b.2.2.2.2.2.2.1 o ho
theorem nz_bt {x : Int32} : ¬ x = 0 ↔ ∃ i, i < 32 ∧ bt x i = true := by
  constructor
  · intro h
    by_cases q : ∃ i, i < 32 ∧ bt x i = true
    · exact q
    · refine absurd (bt_z.mpr fun i hi => ?_) h
      by_cases c : bt x i = true
      · exact absurd ⟨i, hi, c⟩ q
      · exact tf_of c
  · rintro ⟨i, hi, h⟩ e
    rw [bt_z.mp e i hi] at h
    cases h
theorem bt_all {i : Nat} (hi : i < 20) : bt 1048575 i = true := by
  rw [show (1048575 : Int32) = nI 1048575 from rfl, bt_small (by omega), show (1048575 : Nat) = 2 ^ 20 - 1 from rfl, Nat.testBit_two_pow_sub_one]
  simpa using hi
theorem allPts_eq {β μ : BS} (h : AL β μ) : fX0_pointsOfSet β 1048575 = lpF (fX7_allPoints_L9 μ) 0 5 := by
  have hc := h.n20
  have e1 : fX0_pointsOfSet β 1048575 = lpF (fun i x => x + fX7_of μ i 0) 0 (cM μ) := pts_eq h fun i x hi => by rw [if_pos (bt_all (by omega))]
  have e2 : lpF (fX7_allPoints_L9 μ) 0 5 = 0 + fX7_sumWith μ (nI 0) true + fX7_sumWith μ (nI 1) true + fX7_sumWith μ (nI 2) true + fX7_sumWith μ (nI 3) true + fX7_sumWith μ (nI 4) true := rfl
  rw [e1, e2]
  have key : ∀ m, m ≤ cM μ → lpF (fun i x => x + fX7_of μ i 0) 0 m = 0 + lpF (fX7_sumWith_L5 μ (nI 0) true) 0 m + lpF (fX7_sumWith_L5 μ (nI 1) true) 0 m + lpF (fX7_sumWith_L5 μ (nI 2) true) 0 m + lpF (fX7_sumWith_L5 μ (nI 3) true) 0 m + lpF (fX7_sumWith_L5 μ (nI 4) true) 0 m := by
    intro m
    induction m with
    | zero => intro _; rfl
    | succ m ih =>
      intro hm
      obtain ⟨s, hs, es⟩ := h.sv (show m < cM μ by omega)
      simp only [lpF_1]
      rw [ih (by omega)]
      have hL : ∀ k x, k < 5 → fX7_sumWith_L5 μ (nI k) true m x = if s = k then x + fX7_of μ m 0 else x := by
        intro k x hk
        unfold fX7_sumWith_L5
        rw [es]
        by_cases c : s = k
        · subst c; rw [if_pos rfl, if_pos rfl, if_pos rfl]
        · rw [if_neg (fun q => c ((nI_eq (by omega) (by omega)).mp q)), if_neg c, add_z]
      rw [hL 0 _ (by decide), hL 1 _ (by decide), hL 2 _ (by decide), hL 3 _ (by decide), hL 4 _ (by decide)]
      rcases (show s = 0 ∨ s = 1 ∨ s = 2 ∨ s = 3 ∨ s = 4 by omega) with rfl | rfl | rfl | rfl | rfl <;> first | (simp only [Nat.reduceEqDiff, reduceIte]; ac_rfl) | (simp; ac_rfl) | simp
  exact key _ (Nat.le_refl _)
