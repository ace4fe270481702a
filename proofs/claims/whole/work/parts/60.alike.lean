/-! ===== the two sides alike, all told ===== -/
def TR (θ μ : BS) : Prop := θ.1 0 = μ.1 2 ∧ ∀ k, k < tl μ → θ.2 0 k = μ.2 5 k ∧ ∃ c : Nat, 33 ≤ c ∧ c ≤ 126 ∧ μ.2 5 k = nI c
def Rl : RlT := fun β η θ σ μ => AL β μ ∧ vM μ ∧ vH η ∧ vT θ ∧ HR η σ μ ∧ TR θ μ
theorem TR_of {θ μ ν : BS} (h : TR θ μ) (h1 : ν.1 2 = μ.1 2) (h2 : ν.2 5 = μ.2 5) : TR θ ν := by
  unfold TR tl at *
  rw [h1, h2]
  exact h
theorem Rl_i0 {β η θ μ : BS} {σ : Nat → BS} (h : Rl β η θ σ μ) (z : Int32) : Rl β η θ σ (sI μ 0 z) := ⟨AL_row h.1 rfl, vM_i0 h.2.1, h.2.2.1, h.2.2.2.1, HR_of h.2.2.2.2.1 rfl rfl rfl rfl, TR_of h.2.2.2.2.2 rfl rfl⟩
theorem Rl_f {β η θ μ : BS} {σ : Nat → BS} (h : Rl β η θ σ μ) (z : Int32) : Rl β η θ σ (sI (sI μ 0 0) 0 z) := Rl_i0 (Rl_i0 h 0) z
theorem RlV_Rl : RlV Rl := fun β η θ σ μ h => ⟨h.1.1, h.2.2.1, h.2.2.2.1, h.2.1, gA_of h.1⟩
theorem AL_rec {β μ : BS} (h : AL β μ) (hv : vM μ) : AL β (fX7_records (sI μ 0 0)) := AL_row h ((records_o (vM_i0 hv)).2 0 (by decide))
theorem vM_rec {μ : BS} (hv : vM μ) : vM (fX7_records (sI μ 0 0)) := vM_records (vM_i0 hv)
theorem rcd_0 {μ : BS} (hv : vM μ) : (fX7_records (sI μ 0 0)).1 0 = 0 := by
  have hv2 : vM (sI μ 0 0) := vM_i0 hv
  rcases Nat.lt_or_ge (sm (sI μ 0 0)) 6 with c | c
  · rw [records_lt hv2 c]; rfl
  · have e6 : (sI μ 0 0).1 1 = 6 := by rw [hv2.2.1.2.2.2.2.1, show sm (sI μ 0 0) = 6 by have := hv2.2.1.2.2.2.1; omega]; rfl
    rw [records_6 e6]
    rfl
theorem rec_s {μ : BS} (hv : vM μ) : (fX7_records (sI μ 0 0)).2 0 = μ.2 0 := (records_o (vM_i0 hv)).2 0 (by decide)
theorem Rl_chg {β η θ μ β' ν : BS} {σ : Nat → BS} (h : Rl β η θ σ μ) (hb : vB β') (hv : vM ν) (hr : RB β' (ν.2 0)) (e1 : ν.1 = (fX7_records (sI μ 0 0)).1) (e2 : ∀ j, j ≠ 0 → ν.2 j = (fX7_records (sI μ 0 0)).2 j) : Rl β' (fX3_save η σ β).1 θ (fX3_save η σ β).2 ν := by
  have hv0 : vM (sI μ 0 0) := vM_i0 h.2.1
  have hR : HR (fX3_save η σ β).1 (fX3_save η σ β).2 (fX7_records (sI μ 0 0)) := records_HR (AL_row h.1 rfl) hv0 (HR_of h.2.2.2.2.1 rfl rfl rfl rfl)
  have ho := records_o hv0
  exact ⟨⟨hb, hv.1, hr⟩, hv, vH_save h.2.2.1, h.2.2.2.1, HR_of hR (congrFun e1 1) (e2 2 (by decide)) (e2 3 (by decide)) (e2 4 (by decide)), TR_of h.2.2.2.2.2 ((congrFun e1 2).trans ho.1) ((e2 5 (by decide)).trans (ho.2 5 (by decide)))⟩
theorem lay_j {μ : BS} {t w j : Nat} {v : Int32} (hj : j ≠ 0) : (fX7_lay μ t w v).2 j = μ.2 j := if_neg hj
-- what is asked of a change
theorem iT {β μ : BS} (h : AL β μ) (a : Int32) : fX0_hasTicket β a = true ↔ fX7_isTicket (sI μ 0 0) a = true := by rw [hasTicket_eq h]; exact Iff.rfl
theorem tick {β μ : BS} {a : Int32} (h : AL β μ) (c : fX0_hasTicket β a = true) : a = nI a.toNatClampNeg ∧ a.toNatClampNeg < cM μ := isTicket_n h (by rw [← hasTicket_eq h]; exact c)
theorem in_nat {v : Int32} {a b : Nat} (ha : a < 1000) (hb : b < 1000) (h : fX7_in v (nI a) (nI b) = true) : ∃ p : Nat, a ≤ p ∧ p ≤ b ∧ v = nI p := by
  obtain ⟨h1, h2⟩ := in_int h
  rw [nI_toInt (by omega)] at h1 h2
  have h0 : ¬ v < 0 := fun q => by
    rw [Int32.lt_iff_toInt_lt, show (0 : Int32).toInt = 0 from rfl] at q
    omega
  obtain ⟨p, hp, rfl⟩ := nI_of h0
  rw [nI_toInt hp] at h1 h2
  exact ⟨p, by omega, by omega, rfl⟩
theorem iU {β μ : BS} (h : AL β μ) {t : Nat} (ht : t < cM μ) : fX0_isUnfinished β t = true ↔ fX7_isLeft (sI μ 0 0) t = true := by rw [unf_eq h ht]; exact Iff.rfl
theorem cap_eq {β μ : BS} (h : AL β μ) {o : Nat} (ho : o < 5) (z : Int32) : fX0_hasCapacity β (nI o) z = fX7_canTake μ (o + 1) z := by
  unfold fX0_hasCapacity fX7_canTake
  rw [if_neg (show ¬ nI o = -1 from fun q => by
    have := congrArg Int32.toInt q
    rw [nI_toInt (by omega), show (-1 : Int32).toInt = -1 from by decide] at this
    omega), if_neg (show ¬ nI (o + 1) = 0 from nI_ne0 (by omega) (by omega)), nI_clamp (by omega), h.b.2.1 o ho, acct_eq h ho, nI_pred, show (4 + (o + 1)) - 1 = 4 + o by omega]
theorem own_cases {β μ : BS} (h : AL β μ) {t : Nat} (ht : t < cM μ) : (β.2 3 t = -1 ∧ fX7_of μ t 3 = 0) ∨ ∃ o : Nat, o < 5 ∧ β.2 3 t = nI o ∧ fX7_of μ t 3 = nI (o + 1) := by
  have := h.n20
  rcases h.1.2.2 t (by omega) with c | ⟨o, ho, c⟩
  · exact Or.inl ⟨c, (h.ow0 ht).mpr c⟩
  · exact Or.inr ⟨o, ho, c, by rw [(h.owI ht (nI o)).mpr c, nI_1]⟩
theorem capOwn_eq {β μ : BS} (h : AL β μ) {t : Nat} (ht : t < cM μ) (z : Int32) : fX0_hasCapacity β (β.2 3 t) z = fX7_canTake μ (fX7_of μ t 3).toNatClampNeg z := by
  rcases own_cases h ht with ⟨e1, e2⟩ | ⟨o, ho, e1, e2⟩
  · rw [e1, e2]
    have a1 : fX0_hasCapacity β (-1) z = true := by unfold fX0_hasCapacity; rw [if_pos rfl]
    have a2 : fX7_canTake μ (0 : Int32).toNatClampNeg z = true := by
      rw [show (0 : Int32).toNatClampNeg = 0 by decide]
      unfold fX7_canTake
      rw [if_pos (show nI 0 = 0 by decide)]
    rw [a1, a2]
  · rw [e1, e2, nI_clamp (by omega), cap_eq h ho]
theorem iGive {β μ : BS} (h : AL β μ) {t o : Nat} (ht : t < cM μ) (ho : o < 5) : fX0_canBeGivenTo β t o = true ↔ fX7_canAssign (sI μ 0 0) t o = true := by
  refine Iff.of_eq (congrArg (· = true) ?_)
  show fX0_canBeGivenTo β t o = fX7_canAssign μ t o
  unfold fX0_canBeGivenTo fX7_canAssign
  rw [unf_eq h ht, cap_eq h ho, h.pt ht]
  by_cases c : β.2 3 t = nI o
  · rw [if_pos c, if_pos ((h.owI ht _).mpr c)]
  · rw [if_neg c, if_neg (fun q => c ((h.owI ht _).mp q))]
theorem iStart {β μ : BS} (h : AL β μ) {t : Nat} (ht : t < cM μ) : fX0_canStart β t = true ↔ fX7_canStart (sI μ 0 0) t = true := by
  refine Iff.of_eq (congrArg (· = true) ?_)
  show fX0_canStart β t = fX7_canStart μ t
  unfold fX0_canStart fX7_canStart
  rw [h.st ht]
  rcases own_cases h ht with ⟨e1, e2⟩ | ⟨o, ho, e1, e2⟩
  · rw [if_pos e1, e2, if_pos (Int32.le_refl _)]
  · rw [if_neg (show ¬ β.2 3 t = -1 from fun q => by
      rw [e1] at q
      have := congrArg Int32.toInt q
      rw [nI_toInt (by omega), show (-1 : Int32).toInt = -1 from by decide] at this
      omega), e2, if_neg (show ¬ nI (o + 1) ≤ 0 from fun q => by
      have := (nI_leI (a := o + 1) (b := 0) (by omega) (by omega)).mp q
      omega)]
theorem iClose {β μ : BS} (h : AL β μ) {t : Nat} (ht : t < cM μ) : fX0_canClose β t = true ↔ fX7_canClose (sI μ 0 0) t = true := by
  refine Iff.of_eq (congrArg (· = true) ?_)
  show fX0_canClose β t = fX7_canClose μ t
  unfold fX0_canClose fX7_canClose
  rw [h.st ht, blockers_eq h ht]
theorem needsD_eq {β μ : BS} (h : AL β μ) {t u : Nat} (ht : t < cM μ) (hu : u < 32) : fX0_needsDirectly β t (nI u) = fX7_needsIt μ t (nI u) := by
  unfold fX0_needsDirectly
  rw [isIn_bt hu, needsIt_bt hu, h.nd ht]
theorem iNeed {β μ : BS} (h : AL β μ) {t u : Nat} (ht : t < cM μ) (hu : u < cM μ) (hne : ¬ t = u) : fX0_canNeed β t u = true ↔ fX7_canNeed (sI μ 0 0) t u = true := by
  have hn := h.n20
  refine Iff.of_eq (congrArg (· = true) ?_)
  show fX0_canNeed β t u = fX7_canNeed μ t u
  unfold fX0_canNeed fX7_canNeed
  rw [if_neg (show ¬ nI t = nI u from fun q => hne ((nI_eq (by omega) (by omega)).mp q)), needsD_eq h ht (by omega), unf_eq h ht, reached_eq h hu, isIn_bt (by omega)]
  by_cases c : bt (fX7_allNeeds μ u) t = true
  · rw [if_pos c, if_neg (show ¬ ((fX7_allNeeds μ u) >>> ((nI t) &&& 31)) &&& 1 = 0 from fun q => by rw [(bt_ask0 (by omega)).mp q] at c; cases c)]
  · rw [if_neg c, if_pos (show ((fX7_allNeeds μ u) >>> ((nI t) &&& 31)) &&& 1 = 0 from (bt_ask0 (by omega)).mpr (tf_of c))]
theorem lpF_all {f : Nat → Bool → Bool} {c : Nat → Bool} {b : Bool} (n : Nat) (h : ∀ i x, i < n → f i x = (x && c i)) : lpF f b n = true ↔ b = true ∧ ∀ i, i < n → c i = true := by
  have key : ∀ m, m ≤ n → (lpF f b m = true ↔ b = true ∧ ∀ i, i < m → c i = true) := by
    intro m
    induction m with
    | zero => intro _; rw [lpF_0]; exact ⟨fun q => ⟨q, fun i hi => absurd hi (by omega)⟩, fun q => q.1⟩
    | succ m ih =>
      intro hm
      rw [lpF_1, h m _ (by omega), Bool.and_eq_true, ih (by omega)]
      constructor
      · rintro ⟨⟨h1, h2⟩, h3⟩
        refine ⟨h1, fun i hi => ?_⟩
        by_cases e : i = m
        · subst e; exact h3
        · exact h2 i (by omega)
      · rintro ⟨h1, h2⟩
        exact ⟨⟨h1, fun i hi => h2 i (by omega)⟩, h2 m (by omega)⟩
  exact key n (Nat.le_refl _)
theorem iReopen {β μ : BS} (h : AL β μ) {t : Nat} (ht : t < cM μ) : fX0_canReopen β t = true ↔ fX7_canReopen (sI μ 0 0) t = true := by
  have hn := h.n20
  have hnb : cnt β ≤ 20 := by rw [h.n]; exact hn
  have hL : ∀ b, (lpF (fX7_canReopen_L37 μ t) b (cM μ) = true ↔ b = true ∧ ∀ i, i < cM μ → (!(bt (fX7_of μ i 9) t && decide (fX7_of μ i 2 = 3))) = true) := fun b => lpF_all _ fun i x hi => by
    unfold fX7_canReopen_L37
    rw [needsIt_bt (by omega)]
    cases x with
    | false => rfl
    | true =>
      rw [if_pos rfl, Bool.true_and]
      by_cases c : bt (fX7_of μ i 9) t = true
      · rw [if_pos c, c, Bool.true_and]
        by_cases c2 : fX7_of μ i 2 = 3
        · rw [if_pos c2]; simp [c2]
        · rw [if_neg c2]; simp [c2]
      · rw [if_neg c, tf_of c]; rfl
  have hS : ((fX0_thoseThatNeed β (nI t)) &&& (fX0_inState β 3)) = 0 ↔ ∀ i, i < cM μ → (!(bt (fX7_of μ i 9) t && decide (fX7_of μ i 2 = 3))) = true := by
    rw [bt_z]
    unfold fX0_thoseThatNeed
    have e : ∀ i, i < cM μ → bt (fX0_thoseThatNeedAny β (fX6_setOf (nI t)) &&& fX0_inState β 3) i = (bt (fX7_of μ i 9) t && decide (fX7_of μ i 2 = 3)) := fun i hi => by
      rw [bt_and, bt_ttna hnb _ (by omega), bt_inS hnb _ (by omega), h.n, h.st hi, h.nd hi]
      have : (fX7_of μ i 9 &&& fX6_setOf (nI t) = 0) ↔ bt (fX7_of μ i 9) t = false := bt_in (by omega)
      simp only [this, hi, decide_true, Bool.true_and]
      cases bt (fX7_of μ i 9) t <;> simp
    constructor
    · intro q i hi
      rw [← e i hi, q i (by omega)]; rfl
    · intro q i hi
      by_cases c : i < cM μ
      · have := q i c
        rw [← e i c] at this
        simpa using this
      · rw [bt_and, bt_ttna hnb _ hi, h.n, dec_ge (by omega), Bool.false_and]
  show fX0_canReopen β t = true ↔ fX7_canReopen μ t = true
  unfold fX0_canReopen fX7_canReopen
  rw [h.st ht, capOwn_eq h ht, h.pt ht]
  by_cases c1 : fX7_of μ t 2 = 3
  · rw [if_pos c1, if_pos c1]
    by_cases c2 : fX7_canTake μ (fX7_of μ t 3).toNatClampNeg (fX7_of μ t 0) = true
    · rw [if_pos c2, if_pos c2, hL]
      by_cases c3 : ((fX0_thoseThatNeed β (nI t)) &&& (fX0_inState β 3)) = 0
      · rw [if_pos c3]; exact ⟨fun _ => ⟨rfl, hS.mp c3⟩, fun _ => rfl⟩
      · rw [if_neg c3]; exact ⟨fun q => (by cases q), fun q => absurd (hS.mpr q.2) c3⟩
    · rw [if_neg c2, if_neg c2, hL]
      by_cases c3 : ((fX0_thoseThatNeed β (nI t)) &&& (fX0_inState β 3)) = 0
      · rw [if_pos c3]; exact ⟨fun q => (by cases q), fun q => (by cases q.1)⟩
      · rw [if_neg c3]; exact ⟨fun q => (by cases q), fun q => (by cases q.1)⟩
  · rw [if_neg c1, if_neg c1, hL]
    exact ⟨fun q => (by cases q), fun q => (by cases q.1)⟩
-- numbers of sets that shrink
theorem pcn_diff {A B : Int32} (n : Nat) (hn : n ≤ 32) (h : ∀ j, j < n → bt B j = true → bt A j = true) : pcn (bt (A &&& (B ^^^ (-1)))) n + pcn (bt B) n = pcn (bt A) n := by
  induction n with
  | zero => rfl
  | succ n ih =>
    have := ih (by omega) (fun j hj => h j (by omega))
    rw [pcn, pcn, pcn, bt_and, bt_not _ (by omega)]
    have h9 := h n (by omega)
    generalize pcn (bt (A &&& (B ^^^ (-1)))) n = x at this ⊢
    generalize pcn (bt B) n = y at this ⊢
    generalize pcn (bt A) n = w at this ⊢
    cases hb : bt B n with
    | true =>
      rw [h9 hb]
      simp
      omega
    | false =>
      cases bt A n <;> simp <;> omega
theorem bits_sub {A B : Int32} {n : Nat} (hn : n ≤ 20) (hA : ∀ j, n ≤ j → j < 32 → bt A j = false) (h : ∀ j, j < 32 → bt B j = true → bt A j = true) : fX7_bits A - fX7_bits B = fJ6_bitCount_0f7a4 (A &&& (B ^^^ (-1))) := by
  have hd := pcn_diff (A := A) (B := B) 20 (by omega) (fun j hj => h j (by omega))
  rw [bc_bits hn (fun j h1 h2 => by rw [bt_and, hA j h1 h2, Bool.false_and]), bits_eq, bits_eq, bits_eq, pk_sub (by omega)]
  congr 1
  omega
theorem blocked_mono {μ ν : BS} (hn : cM μ ≤ 20) (hc : cM ν = cM μ) (h9 : ∀ j, j < cM μ → fX7_of ν j 9 = fX7_of μ j 9) (hl : ∀ j, j < cM μ → fX7_isLeft ν j = true → fX7_isLeft μ j = true) : ∀ j, j < 32 → bt (fX7_blocked ν) j = true → bt (fX7_blocked μ) j = true := by
  intro j hj q
  rw [bt_blocked (by rw [hc]; exact hn) hj, hc, Bool.and_eq_true, decide_eq_true_eq, decide_eq_true_eq] at q
  obtain ⟨q1, q2⟩ := q
  rw [bt_blocked hn hj, Bool.and_eq_true, decide_eq_true_eq, decide_eq_true_eq]
  refine ⟨q1, ?_⟩
  obtain ⟨i, hi, w⟩ := nz_bt.mp q2
  refine nz_bt.mpr ⟨i, hi, ?_⟩
  unfold fX7_blockers at w ⊢
  rw [bt_and, h9 j q1, bt_left (by rw [hc]; exact hn) hi, hc, Bool.and_eq_true, Bool.and_eq_true, decide_eq_true_eq] at w
  rw [bt_and, bt_left hn hi, w.1, hl i w.2.1 w.2.2]
  simp [w.2.1]
theorem blocked_hi {μ : BS} (hn : cM μ ≤ 20) : ∀ j, cM μ ≤ j → j < 32 → bt (fX7_blocked μ) j = false := fun j h1 h2 => by rw [bt_blocked hn h2, dec_ge h1]
theorem unfS_congr {β β' : BS} (h0 : β'.2 0 = β.2 0) (hc : β'.1 0 = β.1 0) : fX0_unfinishedSet β' = fX0_unfinishedSet β := by
  unfold fX0_unfinishedSet cnt
  rw [hc]
  exact lpF_congr _ fun i x _ => by unfold fX0_unfinishedSet_L4 fX0_isUnfinished; rw [h0]
theorem blkS_congr {β β' : BS} (h0 : β'.2 0 = β.2 0) (h9 : β'.2 9 = β.2 9) (hc : β'.1 0 = β.1 0) : fX0_blockedSet β' = fX0_blockedSet β := by
  unfold fX0_blockedSet fX0_thoseThatNeedAny cnt
  rw [unfS_congr h0 hc, hc]
  exact lpF_congr _ fun i x _ => by unfold fX0_thoseThatNeedAny_L4; rw [h9]
