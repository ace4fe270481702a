/-! ===== what holds of the board throughout the law ===== -/
theorem msk {y : Int32} : ∃ a : Nat, a < 2 ^ 31 ∧ y &&& 2147483647 = nI a := by
  refine nI_of fun h => ?_
  have e1 : (y &&& 2147483647).toBitVec.msb = decide ((y &&& 2147483647).toInt < 0) := BitVec.msb_eq_toInt
  rw [Int32.toBitVec_and, BitVec.msb_and, show (2147483647 : Int32).toBitVec.msb = false from by decide, Bool.and_false] at e1
  rw [Int32.lt_iff_toInt_lt] at h
  have h0 : (0 : Int32).toInt = 0 := by decide
  rw [h0] at h
  rw [decide_eq_true h] at e1
  cases e1
theorem low_n (y : Int32) {n : Nat} (h0 : 0 < n) (hn : n < 1000) : ∃ k : Nat, k < n ∧ fL_low y (nI n) = nI k := by
  obtain ⟨a, ha, e⟩ := msk (y := y)
  refine ⟨a % n, Nat.mod_lt _ h0, ?_⟩
  unfold fL_low iremF
  rw [e]
  exact pk_rem ha h0 (by omega)
theorem low_c {x z : Int32} {n : Nat} (hz : z = nI n) (h0 : 0 < n) (hn : n < 1000) : fL_low x z = nI (fL_low x z).toNatClampNeg ∧ (fL_low x z).toNatClampNeg < n := by
  subst hz
  exact okI (by omega) (low_n x h0 hn)
theorem low_t {β : BS} {x : Int32} (hv : vB β) (h : ¬ (fT_tickets β) = 0) : fL_low x (fT_tickets β) = nI (fL_low x (fT_tickets β)).toNatClampNeg ∧ (fL_low x (fT_tickets β)).toNatClampNeg < cnt β := by
  have h1 := hv.1
  have e : fT_tickets β = nI (cnt β) := hv.2.1
  have h0 : 0 < cnt β := Nat.pos_of_ne_zero fun q => h (by rw [e, q]; rfl)
  exact low_c e h0 (by omega)
theorem open_p (x : Int32) : (fX6_within (1 + (fL_low x 13)) 1 13) = true := by
  obtain ⟨k, hk, e⟩ := low_n x (n := 13) (by decide) (by decide)
  exact wi_n (nx_add nI_l1 (show fL_low x 13 = nI k from e)) nI_l1 (q := 13) rfl (by omega) (by omega) (by decide)
theorem open_z (y : Int32) : (fX6_within (fL_low y 4) 0 3) = true := by
  obtain ⟨k, hk, e⟩ := low_n y (n := 4) (by decide) (by decide)
  exact wi_n (show fL_low y 4 = nI k from e) nI_l0 nI_l3 (by omega) (by omega) (by decide)
theorem days_d (x : Int32) : (fX6_within (1 + (fL_low x 12)) 1 30) = true := by
  obtain ⟨k, hk, e⟩ := low_n x (n := 12) (by decide) (by decide)
  exact wi_n (nx_add nI_l1 (show fL_low x 12 = nI k from e)) nI_l1 (q := 30) rfl (by omega) (by omega) (by decide)
theorem date_d (y : Int32) : (fX6_within (fL_low y 60) 0 999) = true := by
  obtain ⟨k, hk, e⟩ := low_n y (n := 60) (by decide) (by decide)
  exact wi_n (show fL_low y 60 = nI k from e) nI_l0 (q := 999) rfl (by omega) (by omega) (by decide)
/-- a closed ticket needs nothing that is unfinished -/
def CNB (β : BS) : Prop := ∀ t, t < cnt β → β.2 0 t = 3 → ∀ u, u < cnt β → bt (β.2 9 t) u = true → fX0_isUnfinished β u = false
def INVm (dd : Nat) (β μ : BS) : Prop := AL β μ ∧ vM μ ∧ cnt β ≤ 7 ∧ (∃ d : Nat, d ≤ dd ∧ β.1 1 = nI d) ∧ (∀ o, o < 5 → β.2 11 o ≤ β.2 10 o) ∧ CNB β
def INV (dd : Nat) (β : BS) : Prop := ∃ μ, INVm dd β μ
theorem INV.v {dd : Nat} {β : BS} (h : INV dd β) : vB β := by
  obtain ⟨μ, h1, -⟩ := h
  exact h1.1
theorem INV.n7 {dd : Nat} {β : BS} (h : INV dd β) : cnt β ≤ 7 := by
  obtain ⟨μ, -, -, h3, -⟩ := h
  exact h3
theorem INV.mono {dd ee : Nat} {β : BS} (h : INV dd β) (hd : dd ≤ ee) : INV ee β := by
  obtain ⟨μ, h1, h2, h3, ⟨d, h4, h5⟩, h6⟩ := h
  exact ⟨μ, h1, h2, h3, ⟨d, Nat.le_trans h4 hd, h5⟩, h6⟩
theorem days_of {β : BS} (hI : INV 420 β) (x : Int32) : (fX0_canPass β (1 + (fL_low x 12))) = true := by
  obtain ⟨μ, -, -, -, ⟨d, hd, e⟩, -⟩ := hI
  obtain ⟨k, hk, e2⟩ := low_n x (n := 12) (by decide) (by decide)
  unfold fX0_canPass
  rw [if_neg (show ¬ (999 : Int32) < (β.1 1) + (1 + (fL_low x 12)) from lc_nlt (i := 999) rfl (nx_add e (nx_add nI_l1 (show fL_low x 12 = nI k from e2))) (by omega) (by decide))]
theorem st_n {β μ : BS} (h : AL β μ) {t : Nat} (ht : t < cnt β) : ∃ s : Nat, s < 5 ∧ β.2 0 t = nI s := by
  rw [h.n] at ht
  obtain ⟨s, hs, e⟩ := h.sv ht
  exact ⟨s, hs, (h.st ht).trans e⟩
theorem unf_st {β μ : BS} (h : AL β μ) {t : Nat} (ht : t < cnt β) : fX0_isUnfinished β t = true ↔ ¬ 3 ≤ β.2 0 t := by
  obtain ⟨s, hs, e⟩ := st_n h ht
  have u : (if nI s = 3 then false else (if nI s = 4 then false else true)) = (if 3 ≤ nI s then false else true) := unf_cases ⟨s, hs⟩
  unfold fX0_isUnfinished
  rw [e, u]
  by_cases c : 3 ≤ nI s
  · rw [if_pos c]
    exact ⟨fun q => (by cases q), fun q => absurd c q⟩
  · rw [if_neg c]
    exact ⟨fun _ => c, fun _ => rfl⟩
theorem unf_of {dd : Nat} {β : BS} {t : Nat} (hI : INV dd β) (ht : t < cnt β) (hs : ¬ 2 < (fT_stateOf β t)) : (fX0_isUnfinished β t) = true := by
  obtain ⟨μ, h, -⟩ := hI
  refine (unf_st h ht).mpr fun q => hs ?_
  obtain ⟨s, h5, e⟩ := st_n h ht
  show 2 < β.2 0 t
  rw [e] at q ⊢
  have h3 : 3 ≤ s := (nI_leI (a := 3) (by decide) (by omega)).mp q
  exact lc_lt nI_l2 rfl (by omega) (by omega)
theorem needs_bt {β : BS} {t u : Nat} (hu : u < 32) : fT_needs β t u = bt (β.2 9 t) u := isIn_bt hu
theorem need_lt {β μ : BS} (h : AL β μ) {t u : Nat} (ht : t < cnt β) (hu : u < 32) (q : bt (β.2 9 t) u = true) : u < cnt β := by
  rcases Nat.lt_or_ge u (cnt β) with c | c
  · exact c
  · rw [h.n] at ht c
    rw [h.nd ht, h.nb ht c hu] at q
    cases q
/-! what the law's own going finds -/
def stepB (β : BS) (a b : Nat) (x : Int32) : Int32 := if bt x a = true ∧ bt (β.2 9 a) b = true then x ||| s1 b else x
theorem L31_eq {β : BS} {a b i : Nat} {x : Int32} {k : Nat} {y : Int32} {j : Nat} {z : Int32} (hj : j < 32) (hk : k < 32) : fL_reaches_L31 β a b i x k y j z = stepB β k j z := by
  unfold fL_reaches_L31 stepB
  rw [needs_bt hj]
  by_cases c1 : bt z k = true
  · rw [if_pos ((bt_ask1 hk).mpr c1)]
    by_cases c2 : bt (β.2 9 k) j = true
    · rw [if_pos c2, if_pos ⟨c1, c2⟩]; rfl
    · rw [if_neg c2, if_neg (fun q => c2 q.2), or_z]
  · rw [if_neg (fun q => c1 ((bt_ask1 hk).mp q)), if_neg (fun q => c1 q.1), or_z]
theorem stepB_mono {β : BS} {a b : Nat} {x : Int32} {j : Nat} (h : bt x j = true) : bt (stepB β a b x) j = true := by
  unfold stepB
  split
  · rw [bt_or, h]; rfl
  · exact h
theorem stepB_has {β : BS} {a b : Nat} {x : Int32} (hb : b < 32) (h : bt x a = true) (q : bt (β.2 9 a) b = true) : bt (stepB β a b x) b = true := by
  unfold stepB
  rw [if_pos ⟨h, q⟩, bt_or, bt_s1 hb hb, decide_eq_true (rfl : b = b), Bool.or_true]
theorem lpF_keep {α : Type} {f : Nat → α → α} {a : α} (P : α → Prop) (hs : ∀ i x, P x → P (f i x)) {m : Nat} (h : P (lpF f a m)) : ∀ k, P (lpF f a (m + k))
  | 0 => h
  | k + 1 => hs _ _ (lpF_keep P hs h k)
def rowB (β : BS) (k : Nat) (x : Int32) : Int32 := lpF (fun j z => stepB β k j z) x (cnt β)
theorem L19_eq {β : BS} (hn : cnt β ≤ 20) {a b i : Nat} {x : Int32} {k : Nat} {y : Int32} (hk : k < 32) : fL_reaches_L19 β a b i x k y = rowB β k y := by
  unfold fL_reaches_L19 rowB
  exact lpF_congr _ fun j z hj => L31_eq (by omega) hk
theorem rowB_mono {β : BS} {k : Nat} {x : Int32} {j : Nat} (h : bt x j = true) : bt (rowB β k x) j = true := lpF_inv (P := fun z => bt z j = true) h (fun i z q => stepB_mono q) _
theorem rowB_has {β : BS} (hn : cnt β ≤ 20) {k : Nat} {x : Int32} {j : Nat} (hj : j < cnt β) (h : bt x k = true) (q : bt (β.2 9 k) j = true) : bt (rowB β k x) j = true := by
  obtain ⟨r, hr⟩ : ∃ r, cnt β = (j + 1) + r := ⟨cnt β - (j + 1), by omega⟩
  unfold rowB
  rw [hr]
  refine lpF_keep (fun z => bt z j = true) (fun i z w => stepB_mono w) ?_ r
  rw [lpF_1]
  exact stepB_has (by omega) (lpF_inv (P := fun z => bt z k = true) h (fun i z w => stepB_mono w) _) q
def passB (β : BS) (x : Int32) : Int32 := lpF (fun k z => rowB β k z) x (cnt β)
theorem L7_eq {β : BS} (hn : cnt β ≤ 20) {a b i : Nat} {x : Int32} : fL_reaches_L7 β a b i x = passB β x := by
  unfold fL_reaches_L7 passB
  exact lpF_congr _ fun k z hk => L19_eq hn (by omega)
theorem passB_mono {β : BS} {x : Int32} {j : Nat} (h : bt x j = true) : bt (passB β x) j = true := lpF_inv (P := fun z => bt z j = true) h (fun i z q => rowB_mono q) _
theorem passB_has {β : BS} (hn : cnt β ≤ 20) {x : Int32} {k j : Nat} (hk : k < cnt β) (hj : j < cnt β) (h : bt x k = true) (q : bt (β.2 9 k) j = true) : bt (passB β x) j = true := by
  obtain ⟨r, hr⟩ : ∃ r, cnt β = (k + 1) + r := ⟨cnt β - (k + 1), by omega⟩
  unfold passB
  rw [hr]
  refine lpF_keep (fun z => bt z j = true) (fun i z w => rowB_mono w) ?_ r
  rw [lpF_1]
  exact rowB_has hn hj (lpF_inv (P := fun z => bt z k = true) h (fun i z w => rowB_mono w) _) q
/-- a set with all that its tickets need -/
def ClB (β : BS) (c : Nat → Bool) : Prop := ∀ k j, k < cnt β → j < cnt β → c k = true → bt (β.2 9 k) j = true → c j = true
theorem pass_key {β : BS} (hn : cnt β ≤ 20) {u : Nat} (hu : u < cnt β) : ∀ m, (∃ c : Nat → Bool, ClB β c ∧ c u = true ∧ ∀ j, j < cnt β → c j = true → bt (lpF (fun _ z => passB β z) (s1 u) m) j = true) ∨ m + 1 ≤ pcn (bt (lpF (fun _ z => passB β z) (s1 u) m)) (cnt β) := by
  intro m
  induction m with
  | zero =>
    refine Or.inr ?_
    have h := pcn_lt (f := fun _ => false) (g := bt (s1 u)) (cnt β) (fun i _ q => by simp at q) ⟨u, hu, rfl, by rw [bt_s1 (by omega) (by omega)]; exact decide_eq_true rfl⟩
    rw [lpF_0]
    omega
  | succ m ih =>
    have h0 : bt (lpF (fun _ z => passB β z) (s1 u) m) u = true := lpF_inv (P := fun z => bt z u = true) (by rw [bt_s1 (by omega) (by omega)]; exact decide_eq_true rfl) (fun i z q => passB_mono q) m
    show (∃ c : Nat → Bool, ClB β c ∧ c u = true ∧ ∀ j, j < cnt β → c j = true → bt (passB β (lpF (fun _ z => passB β z) (s1 u) m)) j = true) ∨ m + 1 + 1 ≤ pcn (bt (passB β (lpF (fun _ z => passB β z) (s1 u) m))) (cnt β)
    generalize lpF (fun _ z => passB β z) (s1 u) m = x at ih h0 ⊢
    rcases ih with ⟨c, h1, h2, h3⟩ | h
    · exact Or.inl ⟨c, h1, h2, fun j hj q => passB_mono (h3 j hj q)⟩
    · by_cases hc : ∃ k j, k < cnt β ∧ j < cnt β ∧ bt x k = true ∧ bt (β.2 9 k) j = true ∧ bt x j = false
      · obtain ⟨k, j, hk, hj, q1, q2, q3⟩ := hc
        refine Or.inr ?_
        have h4 := pcn_lt (f := bt x) (g := bt (passB β x)) (cnt β) (fun i _ q => passB_mono q) ⟨j, hj, q3, passB_has hn hk hj q1 q2⟩
        omega
      · refine Or.inl ⟨bt x, fun k j hk hj q1 q2 => ?_, h0, fun j _ q => passB_mono q⟩
        cases e : bt x j with
        | true => rfl
        | false => exact absurd ⟨k, j, hk, hj, q1, q2, e⟩ hc
theorem reaches_all {β μ : BS} (h : AL β μ) {u t : Nat} (hu : u < cnt β) (ht : t < cnt β) (hT : TC (μ.2 0) u t) : fL_reaches β u t = true := by
  have hn : cnt β ≤ 20 := by rw [h.n]; exact h.n20
  have e : lpF (fL_reaches_L7 β u t) (1 <<< ((nI u) &&& 31)) (cnt β) = lpF (fun _ z => passB β z) (s1 u) (cnt β) := lpF_congr _ fun i x _ => L7_eq hn
  rcases pass_key hn hu (cnt β) with ⟨c, c1, c2, c3⟩ | q
  · have step : ∀ a b, c a = true → Ed (μ.2 0) a b → c b = true := fun a b ha hab => by
      obtain ⟨g1, g2, g3⟩ := hab
      have g4 : a < cnt β := by rw [h.n]; exact g1
      have g5 : bt (β.2 9 a) b = true := by rw [h.nd g1]; exact g3
      exact c1 a b g4 (need_lt h g4 g2 g5) ha g5
    have key : ∀ b, TC (μ.2 0) u b → c b = true := by
      intro b hb
      have hb2 : Relation.TransGen (Ed (μ.2 0)) u b := hb
      clear hb
      induction hb2 with
      | single hab => exact step _ _ c2 hab
      | tail _ hbc ih => exact step _ _ ih hbc
    unfold fL_reaches
    rw [e, if_pos ((bt_ask1 (by omega)).mpr (c3 t ht (key t hT)))]
  · have := pcn_le (bt (lpF (fun _ z => passB β z) (s1 u) (cnt β))) (cnt β)
    omega
theorem need_all {β μ : BS} (h : AL β μ) {u t : Nat} (hu : u < cnt β) (ht : t < cnt β) (hr : fL_reaches β u t = false) : bt (fX7_allNeeds μ u) t = false := by
  have hn : cM μ ≤ 20 := h.n20
  cases e : bt (fX7_allNeeds μ u) t with
  | false => rfl
  | true =>
    have h1 := (CL_iff hn (allNeeds_CL h (by rw [← h.n]; exact hu)) (by rw [h.n] at ht; omega)).mp e
    rw [reaches_all h hu ht h1] at hr
    cases hr
theorem need_of {dd : Nat} {β : BS} {t u : Nat} (hI : INV dd β) (ht : t < cnt β) (hu : u < cnt β) (hne : ¬ t = u) (hs : ¬ 2 < (fT_stateOf β t)) (hnd : (fT_needs β t u) = false) (hr : (fL_reaches β u t) = false) : (fX0_canNeed β t u) = true := by
  have h1 := unf_of hI ht hs
  obtain ⟨μ, h, -⟩ := hI
  have hn : cM μ ≤ 20 := h.n20
  have h2 := need_all h hu ht hr
  rw [← reached_eq h (by rw [← h.n]; exact hu)] at h2
  unfold fX0_canNeed
  rw [if_neg (show ¬ (fX0_needsDirectly β t (nI u)) = true from fun q => by rw [show fX0_needsDirectly β t (nI u) = false from hnd] at q; cases q), if_pos h1, if_neg (fun q => by rw [isIn_bt (by rw [h.n] at ht; omega), h2] at q; cases q)]
theorem give_of {dd : Nat} {β : BS} {t o : Nat} (hI : INV dd β) (ht : t < cnt β) (ho : o < 5) (hs : ¬ 2 < (fT_stateOf β t)) (hw : ¬ (β.2 3 t) = (nI o)) (hc : ((fT_loadByTickets β o) + (fT_pointsOf β t)) ≤ (fT_capacityOf β o)) : (fX0_canBeGivenTo β t o) = true := by
  have h1 := unf_of hI ht hs
  obtain ⟨μ, h, -⟩ := hI
  have e : fT_loadByTickets β o = β.2 11 o := (load_eq h (nI o)).trans (acct_eq h ho).symm
  rw [e] at hc
  have h2 : fX0_hasCapacity β (nI o) (β.2 1 t) = true := by
    unfold fX0_hasCapacity
    rw [nI_clamp (show o < 2 ^ 31 by omega)]
    split
    · rfl
    · exact if_neg (Int32.not_lt.mpr hc)
  unfold fX0_canBeGivenTo
  rw [if_pos h1, if_neg hw, if_pos h2]
/-! what is told in two ways -/
theorem pts_nat {β μ : BS} (h : AL β μ) (a : Int32) : ∃ p : Nat, p ≤ 13 * cnt β ∧ fX0_pointsOfSet β a = nI p := by
  unfold fX0_pointsOfSet
  have key : ∀ m, m ≤ cnt β → ∃ p : Nat, p ≤ 13 * m ∧ lpF (fX0_pointsOfSet_L4 β a) 0 m = nI p := by
    intro m
    induction m with
    | zero => intro _; exact ⟨0, Nat.le_refl _, rfl⟩
    | succ m ih =>
      intro hm
      obtain ⟨p, hp, e⟩ := ih (by omega)
      have hm2 : m < cM μ := by rw [← h.n]; omega
      obtain ⟨q, q1, q2, e2⟩ := (h.wt hm2).2.1
      have e3 : β.2 1 m = nI q := (h.pt hm2).trans e2
      rw [lpF_1, e]
      unfold fX0_pointsOfSet_L4
      rw [e3]
      by_cases c : (fX6_isIn a (nI m)) = true
      · rw [if_pos c]
        exact ⟨p + q, by omega, nI_add p q⟩
      · rw [if_neg c]
        exact ⟨p, by omega, rfl⟩
  exact key _ (Nat.le_refl _)
theorem sum_points {dd : Nat} {β : BS} {g : Nat → Int32 × Int32 → Int32 × Int32} (hI : INV dd β) (hg : ∀ i x, g i x = ((x.1) + (fT_withState β (nI i)), (x.2) + (fT_pointsWith β (nI i)))) : (lpF g (0, 0) 5).2 = (fT_allPoints β) := by
  obtain ⟨μ, h, -⟩ := hI
  have e2 : lpF (fX7_allPoints_L9 μ) 0 5 = 0 + fX7_sumWith μ (nI 0) true + fX7_sumWith μ (nI 1) true + fX7_sumWith μ (nI 2) true + fX7_sumWith μ (nI 3) true + fX7_sumWith μ (nI 4) true := rfl
  have e0 : lpF g (0, 0) 5 = g 4 (g 3 (g 2 (g 1 (g 0 (0, 0))))) := rfl
  have e3 : ∀ v, fT_pointsWith β v = fX7_sumWith μ v true := fun v => ptsS_eq h v
  rw [show fT_allPoints β = fX0_pointsOfSet β 1048575 from rfl, allPts_eq h, e2, e0]
  simp only [hg, e3]
theorem sum_many {dd : Nat} {β : BS} {g : Nat → Int32 × Int32 → Int32 × Int32} (hI : INV dd β) (hg : ∀ i x, g i x = ((x.1) + (fT_withState β (nI i)), (x.2) + (fT_pointsWith β (nI i)))) : (lpF g (0, 0) 5).1 = (fT_tickets β) := by
  obtain ⟨μ, h, -⟩ := hI
  have hc := h.n20
  have e0 : lpF g (0, 0) 5 = g 4 (g 3 (g 2 (g 1 (g 0 (0, 0))))) := rfl
  have e3 : ∀ v, fT_withState β v = lpF (fX7_sumWith_L5 μ v false) 0 (cM μ) := fun v => withS_eq h v
  have key : ∀ m, m ≤ cM μ → 0 + lpF (fX7_sumWith_L5 μ (nI 0) false) 0 m + lpF (fX7_sumWith_L5 μ (nI 1) false) 0 m + lpF (fX7_sumWith_L5 μ (nI 2) false) 0 m + lpF (fX7_sumWith_L5 μ (nI 3) false) 0 m + lpF (fX7_sumWith_L5 μ (nI 4) false) 0 m = nI m := by
    intro m
    induction m with
    | zero => intro _; rfl
    | succ m ih =>
      intro hm
      obtain ⟨s, hs, es⟩ := h.sv (show m < cM μ by omega)
      simp only [lpF_1]
      rw [← nI_1 m, ← ih (by omega)]
      have hL : ∀ k x, k < 5 → fX7_sumWith_L5 μ (nI k) false m x = if s = k then x + 1 else x := by
        intro k x hk
        unfold fX7_sumWith_L5
        rw [es]
        by_cases c : s = k
        · subst c; rw [if_pos rfl, if_pos rfl, if_neg (by decide)]
        · rw [if_neg (fun q => c ((nI_eq (by omega) (by omega)).mp q)), if_neg c, add_z]
      rw [hL 0 _ (by decide), hL 1 _ (by decide), hL 2 _ (by decide), hL 3 _ (by decide), hL 4 _ (by decide)]
      rcases (show s = 0 ∨ s = 1 ∨ s = 2 ∨ s = 3 ∨ s = 4 by omega) with rfl | rfl | rfl | rfl | rfl <;> first | (simp only [Nat.reduceEqDiff, reduceIte]; ac_rfl) | (simp; ac_rfl) | simp
  have e4 : fT_tickets β = nI (cM μ) := by rw [← h.n]; exact h.1.2.1
  rw [e4, ← key _ (Nat.le_refl _), e0]
  simp only [hg, e3]
theorem blk_hi {β μ : BS} (h : AL β μ) {t : Nat} : ∀ j, cnt β ≤ j → j < 32 → bt (fX0_blockerSet β t) j = false := fun j h1 h2 => by
  unfold fX0_blockerSet
  rw [bt_and, bt_unf (by rw [h.n]; exact h.n20) h2, dec_ge h1, Bool.and_false]
theorem sum_blocked {dd : Nat} {β γ : BS} {g : Nat → Int32 × BS → Int32 × BS} (hI : INV dd β) (hg : ∀ i x, (g i x).1 = x.1 + (if 3 ≤ (fT_stateOf β i) then 0 else if (fT_isBlocked β i) = true then 1 else 0)) : (lpF g (0, γ) (cnt β)).1 = (fT_blockedTickets β) := by
  obtain ⟨μ, h, -⟩ := hI
  have hn : cnt β ≤ 20 := by rw [h.n]; exact h.n20
  have e : fT_blockedTickets β = nI (pcn (bt ((fX0_blockedSet β) &&& (fX0_unfinishedSet β))) (cnt β)) := by
    show fJ6_bitCount_0f7a4 ((fX0_blockedSet β) &&& (fX0_unfinishedSet β)) = _
    have hh : ∀ j, cnt β ≤ j → j < 32 → bt ((fX0_blockedSet β) &&& (fX0_unfinishedSet β)) j = false := fun j h1 h2 => by rw [bt_and, bt_unf hn h2, dec_ge h1, Bool.and_false]
    rw [bitCount_eq (fun i h1 h2 => hh i (by omega) h2), pcn_cut hn (fun i h1 h2 => hh i h1 (by omega))]
  have key : ∀ m, m ≤ cnt β → (lpF g (0, γ) m).1 = nI (pcn (bt ((fX0_blockedSet β) &&& (fX0_unfinishedSet β))) m) := by
    intro m
    induction m with
    | zero => intro _; rfl
    | succ m ih =>
      intro hm
      have hm2 : m < cnt β := by omega
      have c1 : bt ((fX0_blockedSet β) &&& (fX0_unfinishedSet β)) m = (decide (¬ (β.2 9 m) &&& (fX0_unfinishedSet β) = 0) && fX0_isUnfinished β m) := by
        unfold fX0_blockedSet
        rw [bt_and, bt_ttna hn _ (by omega), bt_unf hn (by omega), decide_eq_true hm2, Bool.true_and, Bool.true_and]
      rw [lpF_1, hg, ih (by omega), pcn, c1]
      by_cases c2 : 3 ≤ fT_stateOf β m
      · have c3 : fX0_isUnfinished β m = false := tf_of fun q => (unf_st h hm2).mp q c2
        rw [if_pos c2, c3, Bool.and_false, if_neg (by decide)]
        exact add_z _
      · have c3 : fX0_isUnfinished β m = true := (unf_st h hm2).mpr c2
        rw [if_neg c2, c3, Bool.and_true]
        by_cases c4 : (β.2 9 m) &&& (fX0_unfinishedSet β) = 0
        · have c5 : ¬ fT_isBlocked β m = true := fun q => by
            unfold fT_isBlocked at q
            rw [if_pos (show fX0_blockerSet β m = 0 from c4)] at q
            cases q
          rw [if_neg c5, if_neg (fun q => absurd c4 (of_decide_eq_true q))]
          exact add_z _
        · have c5 : fT_isBlocked β m = true := by
            unfold fT_isBlocked
            rw [if_neg (show ¬ fX0_blockerSet β m = 0 from c4)]
          rw [if_pos c5, if_pos (decide_eq_true c4)]
          exact nI_1 _
  rw [key _ (Nat.le_refl _), e]
theorem no_mutual {dd : Nat} {β : BS} {t u : Nat} (hI : INV dd β) (ht : t < cnt β) (hu : u < cnt β) (q1 : (fT_needs β t u) = true) : ¬ (fT_needs β u t) = true := fun q2 => by
  obtain ⟨μ, h, -⟩ := hI
  have hn := h.n20
  rw [h.n] at ht hu
  rw [needs_bt (by omega), h.nd ht] at q1
  rw [needs_bt (by omega), h.nd hu] at q2
  obtain ⟨r, hr⟩ := h.b.2.2.2.2.2.1
  have h1 := hr t u ⟨ht, by omega, q1⟩
  have h2 := hr u t ⟨hu, by omega, q2⟩
  omega
theorem closed_free {dd : Nat} {β : BS} {t : Nat} (hI : INV dd β) (ht : t < cnt β) (hs : (fT_stateOf β t) = 3) : ¬ (fT_isBlocked β t) = true := fun q => by
  obtain ⟨μ, h, -, -, -, -, h6⟩ := hI
  have hn : cnt β ≤ 20 := by rw [h.n]; exact h.n20
  unfold fT_isBlocked at q
  rw [if_pos] at q
  · cases q
  · refine bt_z.mpr fun i hi => tf_of fun w => ?_
    unfold fX0_blockerSet at w
    rw [bt_and, bt_unf hn hi, Bool.and_eq_true, Bool.and_eq_true] at w
    obtain ⟨w1, w2, w3⟩ := w
    rw [h6 t ht hs i (of_decide_eq_true w2) w1] at w3
    cases w3
theorem blk_0 {dd : Nat} {β : BS} {t : Nat} (hI : INV dd β) (ht : t < cnt β) (hb : (fT_blockersOf β t) ≤ 0) : (b2i (fT_isBlocked β t)) = 0 := by
  obtain ⟨μ, h, -⟩ := hI
  have e := (bits_z (by rw [h.n]; exact h.n20) (blk_hi h (t := t))).mp hb
  unfold fT_isBlocked
  rw [if_pos e]
  rfl
theorem blk_1 {dd : Nat} {β : BS} {t : Nat} (hI : INV dd β) (ht : t < cnt β) (hb : ¬ (fT_blockersOf β t) ≤ 0) : (b2i (fT_isBlocked β t)) = 1 := by
  obtain ⟨μ, h, -⟩ := hI
  have e : ¬ fX0_blockerSet β t = 0 := fun q => hb ((bits_z (by rw [h.n]; exact h.n20) (blk_hi h (t := t))).mpr q)
  unfold fT_isBlocked
  rw [if_neg e]
  rfl
theorem going_table {dd : Nat} {β γ : BS} {t : Nat} (hI : INV dd β) (ht : t < cnt β) : (fT_allNeedsByGoing β t) = (fT_allNeedsByTable β γ t).1 := by
  obtain ⟨μ, h, -⟩ := hI
  rw [h.n] at ht
  show fJ6_bitCount_0f7a4 (fX0_reachedFrom β t) = (fX1_countByTable γ β t).1
  rw [table_eq9 h ht, reached_eq h ht]
  exact bc_bits h.n20 (allNeeds_hi h ht)
theorem needs_going {dd : Nat} {β : BS} {t : Nat} (hI : INV dd β) (ht : t < cnt β) : ¬ (fT_allNeedsByGoing β t) < (fT_needsOf β t) := by
  obtain ⟨μ, h, -⟩ := hI
  have hn := h.n20
  rw [h.n] at ht
  have h1 := allNeeds_hi h ht
  have h2 : ∀ j, cM μ ≤ j → j < 32 → bt (β.2 9 t) j = false := fun j g1 g2 => by rw [h.nd ht]; exact h.nb ht g1 g2
  show ¬ fJ6_bitCount_0f7a4 (fX0_reachedFrom β t) < fJ6_bitCount_0f7a4 (β.2 9 t)
  rw [reached_eq h ht, bitCount_eq (fun i g1 g2 => h1 i (by omega) g2), bitCount_eq (fun i g1 g2 => h2 i (by omega) g2)]
  have h3 := pcn_mono (f := bt (β.2 9 t)) (g := bt (fX7_allNeeds μ t)) 20 (fun i hi q => (allNeeds_CL h ht).2.1 i (by omega) (by rw [h.nd ht] at q; exact q))
  have h4 := pcn_le (bt (fX7_allNeeds μ t)) 20
  exact nI_nlt h3 (by omega)
theorem chain_deep {dd : Nat} {β : BS} {t : Nat} {g : Nat → Int32 → Int32} (hI : INV dd β) (ht : t < cnt β) (hg : ∀ u x, g u x = if (fT_needs β t u) = true then (if (fT_chainOf β u) ≤ x then x else (fT_chainOf β u)) else x) : (fT_chainOf β t) = (lpF g 0 (cnt β)) + 1 := by
  obtain ⟨μ, h, -⟩ := hI
  have hn := h.n20
  obtain ⟨-, h2, -⟩ := tellsChains_CH h false
  rw [h.n] at ht ⊢
  have e1 : ∀ u, u < cM μ → fT_chainOf β u = (fX7_tellsChains μ false).2 8 u := fun u hu => longest_eq h hu
  rw [e1 t ht, h2 t ht rfl, show own9 μ false t = 1 from rfl, Int32.add_comm]
  refine congrArg (· + 1) ?_
  exact (lpF_congr _ fun u x hu => by rw [hg, needs_bt (by omega), h.nd ht, e1 u hu]).symm
theorem load_two {dd : Nat} {β : BS} {o : Nat} (hI : INV dd β) (ho : o < 5) : (fT_loadByTickets β o) = (fT_loadByAccount β o) := by
  obtain ⟨μ, h, -⟩ := hI
  exact (load_eq h (nI o)).trans (acct_eq h ho).symm
theorem load_cap {dd : Nat} {β : BS} {o : Nat} (hI : INV dd β) (ho : o < 5) : (fT_loadByAccount β o) ≤ (fT_capacityOf β o) := by
  obtain ⟨μ, -, -, -, -, h5, -⟩ := hI
  exact h5 o ho
theorem hun_key {β μ : BS} (h : AL β μ) (m : Int32) : ∃ a b : Nat, a ≤ 260 ∧ b ≤ 260 ∧ fX5_doneFor β m = nI a ∧ fX5_leftFor β m = nI b ∧ fX5_hundredthsFor β m = if a + b = 0 then 100 else nI (a * 100 / (a + b)) := by
  have hn : cnt β ≤ 20 := by rw [h.n]; exact h.n20
  obtain ⟨a, ha, ea⟩ := pts_nat h ((fX0_plannedFor β m) &&& (fX0_inState β 3))
  obtain ⟨b, hb, eb⟩ := pts_nat h ((fX0_plannedFor β m) &&& (fX0_unfinishedSet β))
  have ea2 : fX5_doneFor β m = nI a := ea
  have eb2 : fX5_leftFor β m = nI b := eb
  refine ⟨a, b, by omega, by omega, ea2, eb2, ?_⟩
  unfold fX5_hundredthsFor
  rw [ea2, eb2, nI_add]
  by_cases c : a + b = 0
  · rw [if_pos c, c, if_pos nI_0]
  · rw [if_neg c, if_neg (nI_ne0 (by omega) (by omega)), show (100 : Int32) = nI 100 from rfl, pk_mul, pk_div (by omega) (by omega) (by omega)]
theorem hun_left {dd : Nat} {β : BS} {m : Nat} (hI : INV dd β) (hm : m < 4) (q : (fT_hundredthsDone β m) = 100) : (fT_pointsLeft β m) = 0 := by
  obtain ⟨μ, h, -⟩ := hI
  obtain ⟨a, b, ha, hb, -, eb, e⟩ := hun_key h (nI m)
  have q2 : fX5_hundredthsFor β (nI m) = 100 := q
  show fX5_leftFor β (nI m) = 0
  rw [e] at q2
  by_cases c : a + b = 0
  · rw [eb, show b = 0 by omega]; rfl
  · rw [if_neg c] at q2
    rcases Nat.eq_zero_or_pos b with rfl | h0
    · rw [eb]; rfl
    · have h1 : a * 100 / (a + b) < 100 := Nat.div_lt_of_lt_mul (by omega)
      have h2 := (nI_eq (by omega) (by decide)).mp (q2.trans (show (100 : Int32) = nI 100 from rfl))
      omega
theorem left_hun {dd : Nat} {β : BS} {m : Nat} (hI : INV dd β) (hm : m < 4) (q : (fT_pointsLeft β m) = 0) : (fT_hundredthsDone β m) = 100 := by
  obtain ⟨μ, h, -⟩ := hI
  obtain ⟨a, b, ha, hb, -, eb, e⟩ := hun_key h (nI m)
  have q2 : fX5_leftFor β (nI m) = 0 := q
  show fX5_hundredthsFor β (nI m) = 100
  rw [eb] at q2
  have h0 : b = 0 := (nI_eq (by omega) (by decide)).mp (q2.trans nI_l0)
  subst h0
  rw [e, Nat.add_zero]
  by_cases c : a = 0
  · rw [if_pos c]
  · rw [if_neg c, Nat.mul_div_cancel_left 100 (Nat.pos_of_ne_zero c)]
    rfl
theorem late_0a {dd : Nat} {β : BS} {m : Nat} (hI : INV dd β) (hm : m < 4) (q : (fT_day β) ≤ (fT_dateOf β m)) : (b2i (fT_isLate β m)) = 0 := by
  show b2i (fX5_isOverdue β m) = 0
  unfold fX5_isOverdue
  rw [if_pos (show (β.1 1) ≤ (β.2 12 m) from q)]
  rfl
theorem late_0b {dd : Nat} {β : BS} {m : Nat} (hI : INV dd β) (hm : m < 4) (q : (fT_pointsLeft β m) ≤ 0) : (b2i (fT_isLate β m)) = 0 := by
  show b2i (fX5_isOverdue β m) = 0
  unfold fX5_isOverdue
  split
  · rfl
  · rw [if_pos (show (fX5_leftFor β (nI m)) ≤ 0 from q)]
    rfl
theorem late_1 {dd : Nat} {β : BS} {m : Nat} (hI : INV dd β) (hm : m < 4) (q1 : ¬ (fT_day β) ≤ (fT_dateOf β m)) (q : ¬ (fT_pointsLeft β m) ≤ 0) : (b2i (fT_isLate β m)) = 1 := by
  show b2i (fX5_isOverdue β m) = 1
  unfold fX5_isOverdue
  rw [if_neg (show ¬ (β.1 1) ≤ (β.2 12 m) from q1), if_neg (show ¬ (fX5_leftFor β (nI m)) ≤ 0 from q)]
  rfl
theorem sum_late {dd : Nat} {β : BS} {g : Nat → Int32 → Int32} (hI : INV dd β) (hg : ∀ i x, g i x = if (fT_isLate β i) = true then x + 1 else x + 0) : (lpF g 0 4) = (fT_lateMilestones β) := by
  show lpF g 0 4 = lpF (fX5_overdueMilestones_L4 β) 0 4
  exact lpF_congr _ fun i x _ => by
    rw [hg, add_z]
    rfl
theorem crit_two {dd : Nat} {β γ γ' : BS} (hI : INV dd β) : (fT_criticalByTrying β γ).1 = (fT_criticalByOrder β γ').1 := by
  obtain ⟨μ, h, -⟩ := hI
  exact (byTrying_eq (γ := γ) h).trans (byOrder_eq (γ := γ') h).symm
theorem week_le {dd : Nat} {β : BS} (hI : INV dd β) : ¬ (fT_pointsWith β 3) < (fT_pointsOfWeek β) := by
  obtain ⟨μ, h, -⟩ := hI
  have hn : cnt β ≤ 20 := by rw [h.n]; exact h.n20
  have key : ∀ m, m ≤ cnt β → ∃ a b : Nat, a ≤ b ∧ b ≤ 13 * m ∧ lpF (fX5_closedInWeek_L4 β) 0 m = nI a ∧ lpF (fX0_pointsOfSet_L4 β (fX0_inState β 3)) 0 m = nI b := by
    intro m
    induction m with
    | zero => intro _; exact ⟨0, 0, Nat.le_refl _, Nat.le_refl _, rfl, rfl⟩
    | succ m ih =>
      intro hm
      obtain ⟨a, b, h1, h2, e1, e2⟩ := ih (by omega)
      have hm2 : m < cM μ := by rw [← h.n]; omega
      obtain ⟨q, q1, q2, e3⟩ := (h.wt hm2).2.1
      have e4 : β.2 1 m = nI q := (h.pt hm2).trans e3
      rw [lpF_1, lpF_1, e1, e2]
      unfold fX5_closedInWeek_L4 fX0_pointsOfSet_L4
      rw [e4, isIn_bt (by omega), bt_inS hn _ (by omega), decide_eq_true (show m < cnt β by omega), Bool.true_and]
      by_cases c : β.2 0 m = 3
      · rw [if_pos c, if_pos (decide_eq_true c)]
        by_cases c2 : (β.2 6 m) < ((β.1 1) - 6)
        · rw [if_pos c2]
          exact ⟨a, b + q, by omega, by omega, rfl, nI_add b q⟩
        · rw [if_neg c2]
          exact ⟨a + q, b + q, by omega, by omega, nI_add a q, nI_add b q⟩
      · rw [if_neg c, if_neg (fun w => c (of_decide_eq_true w))]
        exact ⟨a, b, h1, by omega, rfl, rfl⟩
  obtain ⟨a, b, h1, h2, e1, e2⟩ := key _ (Nat.le_refl _)
  show ¬ fX0_pointsOfSet β (fX0_inState β 3) < fX5_closedInWeek β
  unfold fX0_pointsOfSet fX5_closedInWeek
  rw [e1, e2]
  exact nI_nlt h1 (by omega)
