/-! ===== all that a ticket needs ===== -/
def TC (f : Nat → Int32) (a b : Nat) : Prop := Relation.TransGen (Ed f) a b
/-- a set that tells all needs of t -/
def CL (f : Nat → Int32) (t : Nat) (z : Int32) : Prop := (∀ u, u < 32 → bt z u = true → TC f t u) ∧ (∀ u, u < 32 → bt (tk f t 9) u = true → bt z u = true) ∧ ∀ i, i < nT f → bt z i = true → ∀ u, u < 32 → bt (tk f i 9) u = true → bt z u = true
theorem CL_iff {f : Nat → Int32} (hn : nT f ≤ 20) {t : Nat} {z : Int32} (h : CL f t z) {u : Nat} (hu : u < 32) : bt z u = true ↔ TC f t u := by
  refine ⟨h.1 u hu, fun q => ?_⟩
  have key : ∀ v, TC f t v → v < 32 → bt z v = true := by
    intro v q
    induction q with
    | single q => intro hv; exact h.2.1 _ hv q.2.2
    | tail _ q ih =>
      intro hv
      have q1 := q.1
      exact h.2.2 _ q.1 (ih (by omega)) _ hv q.2.2
  exact key u q hu
theorem CL_eq {f : Nat → Int32} (hn : nT f ≤ 20) {t : Nat} {z z' : Int32} (h : CL f t z) (h' : CL f t z') : z = z' := bt_eq fun i hi => by rw [CL_iff hn h hi, CL_iff hn h' hi]
theorem TC_lt {f : Nat → Int32} (hb : ∀ t, t < nT f → ∀ j, nT f ≤ j → j < 32 → bt (tk f t 9) j = false) {a b : Nat} (h : TC f a b) : a < nT f ∧ b < nT f := by
  have e1 : ∀ x y, Ed f x y → y < nT f := fun x y q => by
    rcases Nat.lt_or_ge y (nT f) with c | c
    · exact c
    · have := hb x q.1 y c q.2.1
      rw [q.2.2] at this
      cases this
  induction h with
  | single q => exact ⟨q.1, e1 _ _ q⟩
  | tail _ q ih => exact ⟨ih.1, e1 _ _ q⟩
-- the reference: sweeps until nothing comes
theorem sw_or {μ : BS} {t d : Nat} {p : Int32 × Int32} {i : Nat} {y : Int32} (hi : i < 32) : fX7_allNeeds_L20 μ t d p i y = y ||| (if bt y i = true then fX7_of μ i 9 else 0) := by
  unfold fX7_allNeeds_L20
  by_cases c : bt y i = true
  · rw [if_pos ((bt_ask1 hi).mpr c), if_pos c]
  · rw [if_neg (fun q => c ((bt_ask1 hi).mp q)), if_neg c]
theorem sw_mono {μ : BS} {t d : Nat} {p : Int32 × Int32} {x : Int32} {j : Nat} (n : Nat) (hn : n ≤ 32) (h : bt x j = true) : bt (lpF (fX7_allNeeds_L20 μ t d p) x n) j = true := by
  refine lpF_invN (P := fun _ y => bt y j = true) h n fun i y hi q => ?_
  rw [sw_or (by omega), bt_or, q, Bool.true_or]
theorem sw_has {μ : BS} {t d : Nat} {p : Int32 × Int32} {x : Int32} {i j : Nat} (n : Nat) (hn : n ≤ 32) (hi : i < n) (h : bt x i = true) (hj : bt (fX7_of μ i 9) j = true) : bt (lpF (fX7_allNeeds_L20 μ t d p) x n) j = true := by
  induction n with
  | zero => omega
  | succ n ih =>
    rw [lpF_1, sw_or (by omega), bt_or]
    by_cases e : i = n
    · subst e
      rw [if_pos (sw_mono i (by omega) h), hj, Bool.or_true]
    · rw [ih (by omega) (by omega), Bool.true_or]
theorem sw_sound {μ : BS} {t d : Nat} {p : Int32 × Int32} {x : Int32} (hc : cM μ ≤ 20) (h : ∀ u, u < 32 → bt x u = true → TC (μ.2 0) t u) : ∀ u, u < 32 → bt (lpF (fX7_allNeeds_L20 μ t d p) x (cM μ)) u = true → TC (μ.2 0) t u := by
  refine lpF_invN (P := fun _ y => ∀ u, u < 32 → bt y u = true → TC (μ.2 0) t u) h (cM μ) fun i y hi q u hu => ?_
  rw [sw_or (by omega), bt_or, Bool.or_eq_true]
  rintro (w | w)
  · exact q u hu w
  · by_cases c : bt y i = true
    · rw [if_pos c] at w
      exact Relation.TransGen.tail (q i (by omega) c) ⟨hi, hu, w⟩
    · rw [if_neg c, bt_0] at w
      cases w
theorem an_key {μ : BS} {t : Nat} (hc : cM μ ≤ 20) : ∀ (d : Nat) (x y : Int32), fX7_allNeeds_R10_ok μ t d (x, y) = true → (∀ u, u < 32 → bt x u = true → TC (μ.2 0) t u) → (∀ u, u < 32 → bt (fX7_of μ t 9) u = true → bt x u = true) → (∃ d' p, x = lpF (fX7_allNeeds_L20 μ t d' p) y (cM μ)) → CL (μ.2 0) t (fX7_allNeeds_R10 μ t d (x, y)) := by
  intro d
  induction d with
  | zero => intro x y h; rw [fX7_allNeeds_R10_ok] at h; cases h
  | succ d ih =>
    intro x y hok h1 h2 h3
    rw [fX7_allNeeds_R10]
    rw [fX7_allNeeds_R10_ok] at hok
    by_cases e : x = y
    · rw [if_pos e]
      obtain ⟨d', p, h3⟩ := h3
      refine ⟨h1, h2, fun i hi hb u hu hw => ?_⟩
      show bt x u = true
      rw [h3]
      exact sw_has (cM μ) (by omega) hi (by rw [← e]; exact hb) hw
    · rw [if_neg e] at hok ⊢
      exact ih _ _ hok (sw_sound hc h1) (fun u hu w => sw_mono _ (by omega) (h2 u hu w)) ⟨d, (x, y), rfl⟩
theorem allNeeds_CL {β μ : BS} (h : AL β μ) {t : Nat} (ht : t < cM μ) : CL (μ.2 0) t (fX7_allNeeds μ t) := by
  have hc := h.n20
  unfold fX7_allNeeds
  have hok := okAN0 (μ := μ) (t := t) (x := fX7_of μ t 9) (y := -1)
  have hne : ¬ fX7_of μ t 9 = -1 := fun e => by
    have := h.nb ht (j := 31) (by omega) (by omega)
    rw [e, bt_m1 (by omega)] at this
    cases this
  rw [fX7_allNeeds_R10_ok, if_neg hne] at hok
  rw [fX7_allNeeds_R10, if_neg hne]
  have h1 : ∀ u, u < 32 → bt (fX7_of μ t 9) u = true → TC (μ.2 0) t u := fun u hu w => Relation.TransGen.single ⟨ht, hu, w⟩
  exact an_key hc 34 _ _ hok (sw_sound hc h1) (fun u hu w => sw_mono _ (by omega) w) ⟨34, _, rfl⟩
-- the class: steps, each one need further
theorem nba_or {β μ : BS} (h : AL β μ) {a : Int32} {j : Nat} : bt (fX0_neededByAny β a) j = true ↔ ∃ i, i < cM μ ∧ bt a i = true ∧ bt (fX7_of μ i 9) j = true := by
  have hc := h.n20
  unfold fX0_neededByAny
  rw [h.n, lpF_or (s := fun i => if bt a i = true then fX7_of μ i 9 else 0) (fun i x hi => by
    unfold fX0_neededByAny_L4
    rw [isIn_bt (by omega), h.nd hi]
    by_cases c : bt a i = true
    · rw [if_pos c, if_pos c]
    · rw [if_neg c, if_neg c, or_z]), bt_0]
  constructor
  · rintro (q | ⟨i, hi, q⟩)
    · cases q
    · by_cases c : bt a i = true
      · rw [if_pos c] at q; exact ⟨i, hi, c, q⟩
      · rw [if_neg c, bt_0] at q; cases q
  · rintro ⟨i, hi, c, q⟩
    exact Or.inr ⟨i, hi, by rw [if_pos c]; exact q⟩
theorem pcn_full {c : Nat → Bool} : ∀ n, n ≤ pcn c n → ∀ i, i < n → c i = true
  | 0, _, i, hi => by omega
  | n + 1, h, i, hi => by
    have h1 := pcn_le c n
    rw [pcn] at h
    by_cases e : c n = true
    · rw [if_pos e] at h
      by_cases e2 : i = n
      · rw [e2]; exact e
      · exact pcn_full n (by omega) i (by omega)
    · rw [if_neg e] at h; omega
theorem pcn_32 {c : Nat → Bool} (h : ∀ i, 20 ≤ i → i < 32 → c i = false) : pcn c 32 = pcn c 20 := by
  rw [show (32 : Nat) = 20 + 12 from rfl, pcn_add, pcn_congr (g := fun _ => false) 12 (fun i hi => h (20 + i) (by omega) (by omega))]
  rfl
theorem rf_key {β μ : BS} (h : AL β μ) {t : Nat} (ht : t < cM μ) : ∀ (d i : Nat) (x y : Int32), d + i = 21 → (∀ u, u < 32 → bt x u = true → TC (μ.2 0) t u) → (∀ u, u < 32 → bt (fX7_of μ t 9) u = true → bt x u = true) → (∀ u, u < 32 → bt y u = true → bt x u = true) → (y = 0 ∨ x = y ||| fX0_neededByAny β y) → i ≤ pcn (bt y) 32 → CL (μ.2 0) t (fX0_reachedFrom_R12 β t d i (x, y)) := by
  have hc := h.n20
  intro d
  induction d with
  | zero => intro i x y hd h1 h2 h3 h4 h5; exfalso
            have hy : ∀ j, 20 ≤ j → j < 32 → bt y j = false := fun j g1 g2 => tf_of fun q => by
              have := (TC_lt (fun t ht j => h.nb ht) (h1 j g2 (h3 j g2 q))).2
              have : j < cM μ := this
              omega
            rw [pcn_32 hy] at h5
            have := pcn_le (bt y) 20
            omega
  | succ d ih =>
    intro i x y hd h1 h2 h3 h4 h5
    have hy : ∀ j, 20 ≤ j → j < 32 → bt y j = false := fun j g1 g2 => tf_of fun q => by
      have := (TC_lt (fun t ht j => h.nb ht) (h1 j g2 (h3 j g2 q))).2
      have : j < cM μ := this
      omega
    have h6 := pcn_32 hy
    have h7 := pcn_le (bt y) 20
    rw [fX0_reachedFrom_R12]
    by_cases c : (20 : Int32) ≤ nI i
    · rw [if_pos c]
      have c2 : 20 ≤ i := (nI_leI (by omega) (by omega)).mp (show nI 20 ≤ nI i from c)
      have h8 := pcn_full (c := bt y) 20 (by omega)
      refine ⟨h1, h2, fun k hk hb u hu hw => ?_⟩
      refine h3 u hu (h8 u ?_)
      have := (TC_lt (fun t ht j => h.nb ht) (Relation.TransGen.single (r := Ed (μ.2 0)) (a := k) (b := u) ⟨hk, hu, hw⟩)).2
      have : u < cM μ := this
      omega
    · rw [if_neg c]
      by_cases e : x = y
      · rw [if_pos e]
        refine ⟨h1, h2, fun k hk hb u hu hw => ?_⟩
        show bt x u = true
        rcases h4 with h4 | h4
        · have hb : bt x k = true := hb
          rw [e, h4, bt_0] at hb
          cases hb
        · rw [h4, bt_or, Bool.or_eq_true]
          exact Or.inr ((nba_or h).mpr ⟨k, hk, by rw [← e]; exact hb, hw⟩)
      · rw [if_neg e]
        refine ih (i + 1) _ _ (by omega) (fun u hu w => ?_) (fun u hu w => ?_) (fun u hu w => ?_) (Or.inr rfl) ?_
        · rw [bt_or, Bool.or_eq_true] at w
          rcases w with w | w
          · exact h1 u hu w
          · obtain ⟨k, hk, w1, w2⟩ := (nba_or h).mp w
            exact Relation.TransGen.tail (h1 k (by omega) w1) ⟨hk, hu, w2⟩
        · rw [bt_or, h2 u hu w, Bool.true_or]
        · rw [bt_or, w, Bool.true_or]
        · have h9 := bt_grow h3 (fun q => e q.symm)
          show i + 1 ≤ pcn (bt x) 32
          omega
theorem reached_CL {β μ : BS} (h : AL β μ) {t : Nat} (ht : t < cM μ) : CL (μ.2 0) t (fX0_reachedFrom β t) := by
  unfold fX0_reachedFrom
  rw [h.nd ht]
  exact rf_key h ht 21 0 _ 0 rfl (fun u hu w => Relation.TransGen.single ⟨ht, hu, w⟩) (fun u hu w => w) (fun u hu w => by rw [bt_0] at w; cases w) (Or.inl rfl) (Nat.zero_le _)
theorem reached_eq {β μ : BS} (h : AL β μ) {t : Nat} (ht : t < cM μ) : fX0_reachedFrom β t = fX7_allNeeds μ t := CL_eq h.n20 (reached_CL h ht) (allNeeds_CL h ht)
theorem allNeeds_hi {β μ : BS} (h : AL β μ) {t : Nat} (ht : t < cM μ) : ∀ j, cM μ ≤ j → j < 32 → bt (fX7_allNeeds μ t) j = false := fun j h1 h2 => tf_of fun q => by
  have := (TC_lt (fun t ht j => h.nb ht) ((allNeeds_CL h ht).1 j h2 q)).2
  have : j < cM μ := this
  omega
-- the table of all pairs
theorem wt_pass {β γ T : BS} {t k n : Nat} (hk : k < n) (hn : n ≤ 20) (hc : cnt β = n) : (lpF (fX1_countByTable_L46 γ β t k T) T n).2 0 = fun i => if i < n ∧ bt (T.2 0 i) k = true then T.2 0 i ||| T.2 0 k else T.2 0 i := by
  have key : ∀ m, m ≤ n → (lpF (fX1_countByTable_L46 γ β t k T) T m).2 0 = fun i => if i < m ∧ bt (T.2 0 i) k = true then T.2 0 i ||| T.2 0 k else T.2 0 i := by
    intro m
    induction m with
    | zero => intro _; funext i; rw [lpF_0, if_neg (by omega)]
    | succ m ih =>
      intro hm
      have e := ih (by omega)
      rw [lpF_1]
      generalize lpF (fX1_countByTable_L46 γ β t k T) T m = z at e
      have em : z.2 0 m = T.2 0 m := by rw [e]; exact if_neg (by omega)
      have ek : z.2 0 k = T.2 0 k := by
        rw [e]
        show (if k < m ∧ bt (T.2 0 k) k = true then T.2 0 k ||| T.2 0 k else T.2 0 k) = T.2 0 k
        split
        · exact bt_ext fun i _ => by rw [bt_or, Bool.or_self]
        · rfl
      unfold fX1_countByTable_L46
      rw [isIn_bt (by omega), em, ek]
      by_cases c : bt (T.2 0 m) k = true
      · rw [if_pos c]
        funext i
        show upd (z.2 0) m (T.2 0 m ||| T.2 0 k) i = _
        unfold upd
        by_cases e2 : i = m
        · subst e2
          rw [if_pos rfl, if_pos ⟨by omega, c⟩]
        · rw [if_neg e2, e]
          show (if i < m ∧ bt (T.2 0 i) k = true then T.2 0 i ||| T.2 0 k else T.2 0 i) = _
          by_cases e3 : i < m
          · have : i < m + 1 := by omega
            simp [e3, this]
          · have : ¬ i < m + 1 := by omega
            simp [e3, this]
      · rw [if_neg c, e]
        funext i
        show (if i < m ∧ bt (T.2 0 i) k = true then T.2 0 i ||| T.2 0 k else T.2 0 i) = _
        by_cases e2 : i = m
        · subst e2
          rw [if_neg (by omega), if_neg (fun q => c q.2)]
        · by_cases e3 : i < m
          · have : i < m + 1 := by omega
            simp [e3, this]
          · have : ¬ i < m + 1 := by omega
            simp [e3, this]
  exact key n (Nat.le_refl _)
/-- what the table keeps, once the tickets below m have been in between -/
def WI (f : Nat → Int32) (T : Nat → Int32) (m : Nat) : Prop := (∀ i, i < nT f → ∀ u, u < 32 → bt (T i) u = true → TC f i u) ∧ (∀ i, i < nT f → ∀ u, u < 32 → bt (tk f i 9) u = true → bt (T i) u = true) ∧ ∀ k, k < m → ∀ i, i < nT f → bt (T i) k = true → ∀ u, u < 32 → bt (T k) u = true → bt (T i) u = true
theorem WI_step {f T : Nat → Int32} {m : Nat} (hn : nT f ≤ 20) (hm : m < nT f) (h : WI f T m) : WI f (fun i => if i < nT f ∧ bt (T i) m = true then T i ||| T m else T i) (m + 1) := by
  obtain ⟨h1, h2, h3⟩ := h
  have hr : ∀ i, i < nT f → ∀ u, bt (if i < nT f ∧ bt (T i) m = true then T i ||| T m else T i) u = true ↔ bt (T i) u = true ∨ (bt (T i) m = true ∧ bt (T m) u = true) := by
    intro i hi u
    by_cases c : bt (T i) m = true
    · rw [if_pos ⟨hi, c⟩, bt_or, Bool.or_eq_true]
      simp [c]
    · rw [if_neg (fun q => c q.2)]
      simp [c]
  refine ⟨fun i hi u hu w => ?_, fun i hi u hu w => (hr i hi u).mpr (Or.inl (h2 i hi u hu w)), fun k hk i hi w1 u hu w2 => ?_⟩
  · rcases (hr i hi u).mp w with w | ⟨w, w'⟩
    · exact h1 i hi u hu w
    · have a1 := h1 i hi m (by omega) w
      have a2 := h1 m hm u hu w'
      exact Relation.TransGen.trans a1 a2
  · refine (hr i hi u).mpr ?_
    have w1 := (hr i hi k).mp w1
    have w2 := (hr k (by omega) u).mp w2
    by_cases e : k = m
    · subst e
      have a1 : bt (T i) k = true := w1.elim id (fun q => q.1)
      have a2 : bt (T k) u = true := w2.elim id (fun q => q.2)
      exact Or.inr ⟨a1, a2⟩
    · have hk2 : k < m := by omega
      rcases w1 with w1 | ⟨w1, w1'⟩ <;> rcases w2 with w2 | ⟨w2, w2'⟩
      · exact Or.inl (h3 k hk2 i hi w1 u hu w2)
      · exact Or.inr ⟨h3 k hk2 i hi w1 m (by omega) w2, w2'⟩
      · exact Or.inr ⟨w1, h3 k hk2 m hm w1' u hu w2⟩
      · exact Or.inr ⟨w1, w2'⟩
theorem table_eq9 {β μ γ : BS} (h : AL β μ) {t : Nat} (ht : t < cM μ) : (fX1_countByTable γ β t).1 = fX7_bits (fX7_allNeeds μ t) := by
  have hc := h.n20
  have hn := h.n
  have hcl : CL (μ.2 0) t ((lpF (fX1_countByTable_L37 γ β t) (lpF (fX1_countByTable_L8 γ β t) γ (cnt β)) (cnt β)).2 0 t) := by
    rw [hn]
    have e0 : ∀ i, i < cM μ → (lpF (fX1_countByTable_L8 γ β t) γ (cM μ)).2 0 i = fX7_of μ i 9 := by
      have key : ∀ m, m ≤ cM μ → ∀ i, i < m → (lpF (fX1_countByTable_L8 γ β t) γ m).2 0 i = fX7_of μ i 9 := by
        intro m
        induction m with
        | zero => intro _ i hi; omega
        | succ m ih =>
          intro hm i hi
          rw [lpF_1]
          unfold fX1_countByTable_L8
          show upd _ m (β.2 9 m) i = _
          unfold upd
          by_cases e : i = m
          · subst e; rw [if_pos rfl]; exact h.nd hm
          · rw [if_neg e]; exact ih (by omega) i (by omega)
      exact key _ (Nat.le_refl _)
    have hw : WI (μ.2 0) ((lpF (fX1_countByTable_L37 γ β t) (lpF (fX1_countByTable_L8 γ β t) γ (cM μ)) (cM μ)).2 0) (cM μ) := by
      refine lpF_invN (P := fun m (z : BS) => WI (μ.2 0) (z.2 0) m) ?_ (cM μ) fun k z hk hz => ?_
      · refine ⟨fun i hi u hu w => ?_, fun i hi u hu w => ?_, fun k hk => by omega⟩
        · rw [e0 i hi] at w; exact Relation.TransGen.single ⟨hi, hu, w⟩
        · rw [e0 i hi]; exact w
      · unfold fX1_countByTable_L37
        rw [hn, wt_pass hk hc hn]
        exact WI_step hc hk hz
    exact ⟨fun u hu w => hw.1 t ht u hu w, fun u hu w => hw.2.1 t ht u hu w, fun i hi hb u hu w => hw.2.2 i hi t ht hb u hu (hw.2.1 i hi u hu w)⟩
  unfold fX1_countByTable
  show fJ6_bitCount_0f7a4 _ = _
  rw [CL_eq hc hcl (allNeeds_CL h ht)]
  exact bc_bits hc (allNeeds_hi h ht)
