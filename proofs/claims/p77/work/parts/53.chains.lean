/-! ===== chains ===== -/
/-- the most of a row over a set of tickets, at least 0 -/
def mxs (p : Nat → Bool) (c : Nat → Int32) (n : Nat) : Int32 := lpF (fun i x => if p i = true then (if c i ≤ x then x else c i) else x) 0 n
theorem mxs_congr {p p' : Nat → Bool} {c c' : Nat → Int32} (n : Nat) (hp : ∀ i, i < n → p i = p' i) (h : ∀ i, i < n → p' i = true → c i = c' i) : mxs p c n = mxs p' c' n := lpF_congr n fun i x hi => by
  rw [hp i hi]
  by_cases e : p' i = true
  · rw [if_pos e, if_pos e, h i hi e]
  · rw [if_neg e, if_neg e]
theorem mxs_spec (p : Nat → Bool) (c : Nat → Int32) : ∀ n, 0 ≤ mxs p c n ∧ (∀ i, i < n → p i = true → c i ≤ mxs p c n) ∧ (mxs p c n = 0 ∨ ∃ i, i < n ∧ p i = true ∧ mxs p c n = c i)
  | 0 => ⟨Int32.le_refl _, fun i hi => absurd hi (Nat.not_lt_zero _), Or.inl rfl⟩
  | n + 1 => by
    obtain ⟨h1, h2, h3⟩ := mxs_spec p c n
    have e : mxs p c (n + 1) = if p n = true then (if c n ≤ mxs p c n then mxs p c n else c n) else mxs p c n := rfl
    rw [e]
    by_cases c1 : p n = true
    · rw [if_pos c1]
      by_cases c2 : c n ≤ mxs p c n
      · rw [if_pos c2]
        refine ⟨h1, fun i hi hp => ?_, ?_⟩
        · by_cases e2 : i = n
          · rw [e2]; exact c2
          · exact h2 i (by omega) hp
        · rcases h3 with h3 | ⟨i, hi, h3⟩
          · exact Or.inl h3
          · exact Or.inr ⟨i, by omega, h3⟩
      · rw [if_neg c2]
        have c3 : mxs p c n ≤ c n := Int32.le_of_lt (Int32.not_le.mp c2)
        refine ⟨Int32.le_trans h1 c3, fun i hi hp => ?_, Or.inr ⟨n, by omega, c1, rfl⟩⟩
        by_cases e2 : i = n
        · rw [e2]; exact Int32.le_refl _
        · exact Int32.le_trans (h2 i (by omega) hp) c3
    · rw [if_neg c1]
      refine ⟨h1, fun i hi hp => ?_, ?_⟩
      · by_cases e2 : i = n
        · rw [e2] at hp; exact absurd hp c1
        · exact h2 i (by omega) hp
      · rcases h3 with h3 | ⟨i, hi, h3⟩
        · exact Or.inl h3
        · exact Or.inr ⟨i, by omega, h3⟩
theorem mxs_uniq {p : Nat → Bool} {c : Nat → Int32} {n : Nat} {y : Int32} (h1 : 0 ≤ y) (h2 : ∀ i, i < n → p i = true → c i ≤ y) (h3 : y = 0 ∨ ∃ i, i < n ∧ p i = true ∧ y = c i) : mxs p c n = y := by
  obtain ⟨g1, g2, g3⟩ := mxs_spec p c n
  refine Int32.le_antisymm ?_ ?_
  · rcases g3 with g3 | ⟨i, hi, hp, g3⟩
    · rw [g3]; exact h1
    · rw [g3]; exact h2 i hi hp
  · rcases h3 with h3 | ⟨i, hi, hp, h3⟩
    · rw [h3]; exact g1
    · rw [h3]; exact g2 i hi hp
/-- what a ticket itself counts for -/
def own9 (μ : BS) (b : Bool) (t : Nat) : Int32 := if b = true then (if fX7_isLeft μ t = true then fX7_of μ t 0 else 0) else 1
/-- the chains of the tickets in a set -/
def CH (μ : BS) (b : Bool) (p : Nat → Bool) (c : Nat → Int32) : Prop := ∀ t, t < cM μ → p t = true → c t = own9 μ b t + mxs (bt (fX7_of μ t 9)) c (cM μ)
theorem CH_uniq {μ : BS} {b : Bool} {c c' : Nat → Int32} {r : Nat → Nat} (hn : cM μ ≤ 20) (hr : ∀ x y, Ed (μ.2 0) x y → r y < r x) (h : CH μ b (fun _ => true) c) (h' : CH μ b (fun _ => true) c') : ∀ t, t < cM μ → c t = c' t := by
  have key : ∀ d t, r t < d → t < cM μ → c t = c' t := by
    intro d
    induction d with
    | zero => intro t h; omega
    | succ d ih =>
      intro t hd ht
      rw [h t ht rfl, h' t ht rfl]
      congr 1
      refine mxs_congr _ (fun _ _ => rfl) fun i hi hb => ih i ?_ hi
      have := hr t i ⟨ht, by omega, hb⟩
      omega
  exact fun t ht => key (r t + 1) t (by omega) ht
/-- sets whose members' needs are members -/
def SC (μ : BS) (a : Int32) : Prop := (∀ j, cM μ ≤ j → j < 32 → bt a j = false) ∧ ∀ t, t < cM μ → bt a t = true → ∀ u, u < 32 → bt (fX7_of μ t 9) u = true → bt a u = true
/-- the reference's telling of chains, on its way -/
def TI (μ : BS) (b : Bool) (x : Int32 × BS) : Prop := eqX 8 μ x.2 ∧ SC μ x.1 ∧ CH μ b (bt x.1) (x.2.2 8) ∧ (b = false → ∀ t, t < cM μ → bt x.1 t = true → ∃ l : Nat, 1 ≤ l ∧ l ≤ pcn (bt x.1) 20 ∧ x.2.2 8 t = nI l)
theorem sub_bt {x a : Int32} : x &&& (a ^^^ (-1)) = 0 ↔ ∀ u, u < 32 → bt x u = true → bt a u = true := by
  rw [bt_z]
  constructor
  · intro h u hu w
    have := h u hu
    rw [bt_and, bt_not _ hu, w, Bool.true_and] at this
    simpa using this
  · intro h u hu
    rw [bt_and, bt_not _ hu]
    cases w : bt x u
    · rfl
    · rw [h u hu w]; rfl
theorem L62_eq {μ : BS} {b : Bool} {d i : Nat} {p x : Int32 × BS} (hn : cM μ ≤ 20) : lpF (fX7_tellsChains_L62 μ b d p i x) 0 (cM μ) = mxs (bt (fX7_of x.2 i 9)) (x.2.2 8) (cM μ) := lpF_congr _ fun k y hk => by
  unfold fX7_tellsChains_L62
  by_cases c : bt (fX7_of x.2 i 9) k = true
  · rw [if_pos ((bt_ask1 (by omega)).mpr c), if_pos c]
  · rw [if_neg (fun q => c ((bt_ask1 (by omega)).mp q)), if_neg c]
theorem of_x8 {μ ν : BS} (h : eqX 8 μ ν) (t w : Nat) : fX7_of ν t w = fX7_of μ t w := by unfold fX7_of; rw [h.2 0 (by decide)]
theorem left_x8 {μ ν : BS} (h : eqX 8 μ ν) (t : Nat) : fX7_isLeft ν t = fX7_isLeft μ t := by unfold fX7_isLeft; rw [of_x8 h]
theorem L21_eq {μ : BS} {b : Bool} {d i : Nat} {p x : Int32 × BS} (hn : cM μ ≤ 20) (hi : i < cM μ) (hx : eqX 8 μ x.2) : fX7_tellsChains_L21 μ b d p i x = if bt x.1 i = false ∧ (∀ u, u < 32 → bt (fX7_of μ i 9) u = true → bt x.1 u = true) then (x.1 ||| s1 i, sE x.2 8 i (own9 μ b i + mxs (bt (fX7_of μ i 9)) (x.2.2 8) (cM μ))) else x := by
  unfold fX7_tellsChains_L21
  rw [L62_eq hn, of_x8 hx, of_x8 hx, left_x8 hx]
  by_cases c1 : bt x.1 i = true
  · rw [if_neg (fun q => by rw [(bt_ask0 (by omega)).mp q] at c1; cases c1), if_neg (fun q => by rw [q.1] at c1; cases c1)]
  · have c1 := tf_of c1
    rw [if_pos ((bt_ask0 (by omega)).mpr c1)]
    by_cases c2 : ∀ u, u < 32 → bt (fX7_of μ i 9) u = true → bt x.1 u = true
    · rw [if_pos (sub_bt.mpr c2), if_pos (show bt x.1 i = false ∧ (∀ u, u < 32 → bt (fX7_of μ i 9) u = true → bt x.1 u = true) from ⟨c1, c2⟩)]
      unfold own9
      cases b with
      | false => rfl
      | true =>
        show (if fX7_isLeft μ i = true then (x.1 ||| s1 i, sE x.2 8 i (fX7_of μ i 0 + mxs (bt (fX7_of μ i 9)) (x.2.2 8) (cM μ))) else (x.1 ||| s1 i, sE x.2 8 i (0 + mxs (bt (fX7_of μ i 9)) (x.2.2 8) (cM μ)))) = (x.1 ||| s1 i, sE x.2 8 i ((if fX7_isLeft μ i = true then fX7_of μ i 0 else 0) + mxs (bt (fX7_of μ i 9)) (x.2.2 8) (cM μ)))
        by_cases c3 : fX7_isLeft μ i = true
        · rw [if_pos c3, if_pos c3]
        · rw [if_neg c3, if_neg c3]
    · rw [if_neg (fun q => c2 (sub_bt.mp q)), if_neg (fun q => c2 q.2)]
theorem pcn_s1 {a : Int32} {i n : Nat} (hi : i < n) (hn : n ≤ 32) (h : bt a i = false) : pcn (bt (a ||| s1 i)) n = pcn (bt a) n + 1 := by
  have hb : ∀ j, j < n → bt (a ||| s1 i) j = (bt a j || decide (j = i)) := fun j hj => by rw [bt_or, bt_s1 (by omega) (by omega)]
  rw [pcn_congr n hb]
  clear hb
  induction n with
  | zero => omega
  | succ n ih =>
    rw [pcn, pcn]
    by_cases e : i = n
    · subst e
      rw [h]
      have : pcn (fun j => bt a j || decide (j = i)) i = pcn (bt a) i := pcn_congr i fun j hj => by
        have : ¬ j = i := by omega
        simp [this]
      rw [this]
      simp
    · rw [ih (by omega) (by omega)]
      have : ¬ n = i := fun q => e q.symm
      simp [this]
      omega
theorem TI_step {β μ : BS} (h : AL β μ) {b : Bool} {i : Nat} {x : Int32 × BS} (hi : i < cM μ) (hx : TI μ b x) (c1 : bt x.1 i = false) (c2 : ∀ u, u < 32 → bt (fX7_of μ i 9) u = true → bt x.1 u = true) : TI μ b (x.1 ||| s1 i, sE x.2 8 i (own9 μ b i + mxs (bt (fX7_of μ i 9)) (x.2.2 8) (cM μ))) := by
  have hn := h.n20
  obtain ⟨h1, ⟨h2, h3⟩, h4, h5⟩ := hx
  have hb : ∀ j, j < 32 → (bt (x.1 ||| s1 i) j = true ↔ bt x.1 j = true ∨ j = i) := fun j hj => by
    rw [bt_or, bt_s1 (by omega) hj]; simp
  have hup : ∀ v j, j ≠ i → (sE x.2 8 i v).2 8 j = x.2.2 8 j := fun v j hj => pk_un hj
  have hus : ∀ v, (sE x.2 8 i v).2 8 i = v := fun v => pk_us
  have hmx : ∀ t v, t < cM μ → (∀ u, u < 32 → bt (fX7_of μ t 9) u = true → bt x.1 u = true) → mxs (bt (fX7_of μ t 9)) ((sE x.2 8 i v).2 8) (cM μ) = mxs (bt (fX7_of μ t 9)) (x.2.2 8) (cM μ) := fun t v ht hs => mxs_congr _ (fun _ _ => rfl) fun j hj w => hup v j fun e => by
    have := hs j (by omega) w
    rw [e, c1] at this
    cases this
  refine ⟨eqX_e h1, ⟨fun j g1 g2 => tf_of fun w => ?_, fun t ht w u hu w2 => ?_⟩, fun t ht w => ?_, fun hbf t ht w => ?_⟩
  · rcases (hb j g2).mp w with w | w
    · rw [h2 j g1 g2] at w; cases w
    · omega
  · refine (hb u hu).mpr (Or.inl ?_)
    rcases (hb t (by omega)).mp w with w | w
    · exact h3 t ht w u hu w2
    · subst w; exact c2 u hu w2
  · rcases (hb t (by omega)).mp w with w | w
    · have e : t ≠ i := fun e => by rw [e, c1] at w; cases w
      show (sE x.2 8 i _).2 8 t = _
      rw [hup _ t e, h4 t ht w, hmx t _ ht (h3 t ht w)]
    · subst w
      show (sE x.2 8 t _).2 8 t = _
      rw [hus, hmx t _ ht c2]
  · have hp : pcn (bt (x.1 ||| s1 i)) 20 = pcn (bt x.1) 20 + 1 := pcn_s1 (by omega) (by omega) c1
    show ∃ l : Nat, 1 ≤ l ∧ l ≤ pcn (bt (x.1 ||| s1 i)) 20 ∧ (sE x.2 8 i _).2 8 t = nI l
    rw [hp]
    rcases (hb t (by omega)).mp w with w | w
    · have e : t ≠ i := fun e => by rw [e, c1] at w; cases w
      obtain ⟨l, l1, l2, l3⟩ := h5 hbf t ht w
      exact ⟨l, l1, by omega, by rw [hup _ t e]; exact l3⟩
    · subst w
      have e0 : own9 μ b t = 1 := by unfold own9; rw [hbf]; rfl
      rw [hus, e0]
      obtain ⟨g1, g2, g3⟩ := mxs_spec (bt (fX7_of μ t 9)) (x.2.2 8) (cM μ)
      rcases g3 with g3 | ⟨k, hk, w, g3⟩
      · exact ⟨1, by omega, by omega, by rw [g3]; rfl⟩
      · obtain ⟨l, l1, l2, l3⟩ := h5 hbf k hk (c2 k (by omega) w)
        refine ⟨l + 1, by omega, by omega, ?_⟩
        rw [g3, l3, Int32.add_comm]
        exact nI_1 l
/-- a sweep: what was there stays, and something comes where something is wanting -/
theorem TI_sweep {β μ : BS} (h : AL β μ) {b : Bool} {d : Nat} {p x : Int32 × BS} (hx : TI μ b x) : ∀ m, m ≤ cM μ → TI μ b (lpF (fX7_tellsChains_L21 μ b d p) x m) ∧ (∀ u, u < 32 → bt x.1 u = true → bt (lpF (fX7_tellsChains_L21 μ b d p) x m).1 u = true) ∧ ∀ i, i < m → (∀ u, u < 32 → bt (fX7_of μ i 9) u = true → bt x.1 u = true) → bt (lpF (fX7_tellsChains_L21 μ b d p) x m).1 i = true := by
  have hn := h.n20
  intro m
  induction m with
  | zero => intro _; exact ⟨hx, fun u hu w => w, fun i hi => by omega⟩
  | succ m ih =>
    intro hm
    obtain ⟨g1, g2, g3⟩ := ih (by omega)
    rw [lpF_1, L21_eq hn (show m < cM μ by omega) g1.1]
    generalize lpF (fX7_tellsChains_L21 μ b d p) x m = z at g1 g2 g3
    by_cases c : bt z.1 m = false ∧ (∀ u, u < 32 → bt (fX7_of μ m 9) u = true → bt z.1 u = true)
    · rw [if_pos c]
      refine ⟨TI_step h (by omega) g1 c.1 c.2, fun u hu w => ?_, fun i hi w => ?_⟩
      · show bt (z.1 ||| s1 m) u = true
        rw [bt_or, g2 u hu w, Bool.true_or]
      · show bt (z.1 ||| s1 m) i = true
        by_cases e : i = m
        · subst e; rw [bt_or, bt_s1 (by omega) (by omega)]; simp
        · rw [bt_or, g3 i (by omega) w, Bool.true_or]
    · rw [if_neg c]
      refine ⟨g1, g2, fun i hi w => ?_⟩
      by_cases e : i = m
      · subst e
        by_cases c1 : bt z.1 i = true
        · exact c1
        · exact absurd ⟨tf_of c1, fun u hu w2 => g2 u hu (w u hu w2)⟩ c
      · exact g3 i (by omega) w
theorem min_rank {r : Nat → Nat} {p : Nat → Prop} : ∀ d, (∃ t, p t ∧ r t < d) → ∃ t, p t ∧ ∀ u, p u → r t ≤ r u := by
  intro d
  induction d with
  | zero => rintro ⟨t, _, h⟩; omega
  | succ d ih =>
    rintro ⟨t, h1, h2⟩
    by_cases q : ∃ u, p u ∧ r u < d
    · exact ih q
    · refine ⟨t, h1, fun u hu => ?_⟩
      rcases Nat.lt_or_ge (r u) (r t) with c | c
      · exact absurd ⟨u, hu, by omega⟩ q
      · exact c
/-- of what is wanting something can come -/
theorem some_free {β μ : BS} (h : AL β μ) {a : Int32} (hw : ∃ t, t < cM μ ∧ bt a t = false) : ∃ t, t < cM μ ∧ bt a t = false ∧ ∀ u, u < 32 → bt (fX7_of μ t 9) u = true → bt a u = true := by
  obtain ⟨r, hr⟩ := h.b.2.2.2.2.2.1
  obtain ⟨t0, a1, a2⟩ := hw
  have hn := h.n20
  obtain ⟨t, ⟨b1, b2⟩, b3⟩ := min_rank (r := r) (p := fun t => t < cM μ ∧ bt a t = false) (r t0 + 1) ⟨t0, ⟨a1, a2⟩, by omega⟩
  refine ⟨t, b1, b2, fun u hu w => ?_⟩
  by_cases c : bt a u = true
  · exact c
  · have e1 : u < cM μ := by
      rcases Nat.lt_or_ge u (cM μ) with q | q
      · exact q
      · rw [h.nb b1 q hu] at w; cases w
    have := hr t u ⟨b1, hu, w⟩
    have := b3 u ⟨e1, tf_of c⟩
    omega
theorem bt_allset {μ : BS} (hn : cM μ ≤ 20) (h0 : μ.2 0 0 = nI (cM μ)) {j : Nat} (hj : j < 32) : bt ((1 <<< ((μ.2 0 0) &&& 31)) - 1) j = decide (j < cM μ) := by
  have key : ∀ n : Fin 21, (1 <<< ((nI n.1) &&& 31) : Int32) - 1 = nI (2 ^ n.1 - 1) := by decide +kernel
  rw [h0, key ⟨cM μ, by omega⟩, bt_small hj, Nat.testBit_two_pow_sub_one]
theorem done_all {μ : BS} (hn : cM μ ≤ 20) (h0 : μ.2 0 0 = nI (cM μ)) {a : Int32} (ha : ∀ j, cM μ ≤ j → j < 32 → bt a j = false) : a = (1 <<< ((μ.2 0 0) &&& 31)) - 1 ↔ ∀ t, t < cM μ → bt a t = true := by
  constructor
  · intro e t ht
    rw [e, bt_allset hn h0 (by omega)]
    simpa using ht
  · intro e
    refine bt_ext fun j hj => ?_
    rw [bt_allset hn h0 hj]
    by_cases c : j < cM μ
    · rw [e j c]; simp [c]
    · rw [ha j (by omega) hj]; simp [c]
theorem tc_key {β μ : BS} (h : AL β μ) {b : Bool} : ∀ (d : Nat) (x : Int32 × BS), TI μ b x → cM μ + 1 ≤ d + pcn (bt x.1) 20 → fX7_tellsChains_R13_ok μ b d x = true ∧ CH μ b (fun _ => true) ((fX7_tellsChains_R13 μ b d x).2 8) ∧ (b = false → ∀ t, t < cM μ → ∃ l : Nat, 1 ≤ l ∧ l ≤ 20 ∧ (fX7_tellsChains_R13 μ b d x).2 8 t = nI l) := by
  have hn := h.n20
  intro d
  induction d with
  | zero =>
    intro x hx hd
    exfalso
    have h1 : pcn (bt x.1) 20 = pcn (bt x.1) (cM μ) := pcn_cut hn fun i g1 g2 => hx.2.1.1 i g1 (by omega)
    have h2 := pcn_le (bt x.1) (cM μ)
    omega
  | succ d ih =>
    intro x hx hd
    rw [fX7_tellsChains_R13_ok, fX7_tellsChains_R13]
    by_cases c : x.1 = (1 <<< ((μ.2 0 0) &&& 31)) - 1
    · rw [if_pos c, if_pos c]
      have hall := (done_all hn h.f0 hx.2.1.1).mp c
      refine ⟨rfl, fun t ht _ => hx.2.2.1 t ht (hall t ht), fun hb t ht => ?_⟩
      obtain ⟨l, l1, l2, l3⟩ := hx.2.2.2 hb t ht (hall t ht)
      exact ⟨l, l1, Nat.le_trans l2 (pcn_le _ _), l3⟩
    · rw [if_neg c, if_neg c]
      have hwant : ∃ t, t < cM μ ∧ bt x.1 t = false := by
        by_cases q : ∃ t, t < cM μ ∧ bt x.1 t = false
        · exact q
        · refine absurd ((done_all hn h.f0 hx.2.1.1).mpr fun t ht => ?_) c
          by_cases w : bt x.1 t = true
          · exact w
          · exact absurd ⟨t, ht, tf_of w⟩ q
      obtain ⟨t, ht, w1, w2⟩ := some_free h hwant
      obtain ⟨s1', s2, s3⟩ := TI_sweep h (d := d) (p := x) hx (cM μ) (Nat.le_refl _)
      have hlt : pcn (bt x.1) 20 < pcn (bt (lpF (fX7_tellsChains_L21 μ b d x) x (cM μ)).1) 20 := pcn_lt 20 (fun i hi w => s2 i (by omega) w) ⟨t, by omega, w1, s3 t ht w2⟩
      have e : lpF (fX7_tellsChains_L21 μ b d x) (x.1, x.2) (cM μ) = lpF (fX7_tellsChains_L21 μ b d x) x (cM μ) := rfl
      rw [e]
      exact ih _ s1' (by show cM μ + 1 ≤ d + pcn (bt (lpF (fX7_tellsChains_L21 μ b d x) x (cM μ)).1) 20; omega)
theorem TI_0 {μ : BS} {b : Bool} : TI μ b (0, μ) := by
  have e : ∀ t, bt ((0, μ) : Int32 × BS).1 t = true → False := fun t w => by
    rw [show ((0, μ) : Int32 × BS).1 = 0 from rfl, bt_0] at w
    cases w
  exact ⟨eqX_refl 8 μ, ⟨fun j _ _ => bt_0 j, fun t _ w => (e t w).elim⟩, fun t _ w => (e t w).elim, fun _ t _ w => (e t w).elim⟩
theorem tellsChains_CH {β μ : BS} (h : AL β μ) (b : Bool) : fX7_tellsChains_R13_ok μ b 22 (0, μ) = true ∧ CH μ b (fun _ => true) ((fX7_tellsChains μ b).2 8) ∧ (b = false → ∀ t, t < cM μ → ∃ l : Nat, 1 ≤ l ∧ l ≤ 20 ∧ (fX7_tellsChains μ b).2 8 t = nI l) := by
  have hn := h.n20
  exact tc_key h 22 (0, μ) TI_0 (by omega)
/-- how long the longest chain from a ticket is -/
def LC (μ : BS) (t : Nat) : Nat := ((fX7_tellsChains μ false).2 8 t).toNatClampNeg
theorem LC_spec {β μ : BS} (h : AL β μ) {t : Nat} (ht : t < cM μ) : 1 ≤ LC μ t ∧ LC μ t ≤ 20 ∧ (fX7_tellsChains μ false).2 8 t = nI (LC μ t) ∧ (∀ u, u < cM μ → bt (fX7_of μ t 9) u = true → LC μ u < LC μ t) ∧ (LC μ t = 1 ∨ ∃ u, u < cM μ ∧ bt (fX7_of μ t 9) u = true ∧ LC μ t = LC μ u + 1) := by
  obtain ⟨-, h2, h3⟩ := tellsChains_CH h false
  have e : ∀ u, u < cM μ → 1 ≤ LC μ u ∧ LC μ u ≤ 20 ∧ (fX7_tellsChains μ false).2 8 u = nI (LC μ u) := fun u hu => by
    obtain ⟨l, l1, l2, l3⟩ := h3 rfl u hu
    have : LC μ u = l := by unfold LC; rw [l3, nI_clamp (by omega)]
    rw [this]
    exact ⟨l1, l2, l3⟩
  obtain ⟨a1, a2, a3⟩ := e t ht
  have h4 := h2 t ht rfl
  rw [a3, show own9 μ false t = 1 from rfl] at h4
  obtain ⟨g1, g2, g3⟩ := mxs_spec (bt (fX7_of μ t 9)) ((fX7_tellsChains μ false).2 8) (cM μ)
  refine ⟨a1, a2, a3, fun u hu w => ?_, ?_⟩
  · have h5 := g2 u hu w
    rcases g3 with g3 | ⟨k, hk, w2, g3⟩
    · rw [g3, (e u hu).2.2] at h5
      have := (nI_leI (by have := (e u hu).2.1; omega) (by omega)).mp (show nI (LC μ u) ≤ nI 0 from h5)
      have := (e u hu).1
      omega
    · obtain ⟨k1, k2, k3⟩ := e k hk
      rw [g3, k3] at h4 h5
      rw [(e u hu).2.2] at h5
      have h6 := (nI_leI (by have := (e u hu).2.1; omega) (by omega)).mp h5
      rw [Int32.add_comm, nI_1] at h4
      have := (nI_eq (by omega) (by omega)).mp h4
      omega
  · rcases g3 with g3 | ⟨k, hk, w2, g3⟩
    · rw [g3] at h4
      exact Or.inl ((nI_eq (by omega) (by omega)).mp (show nI (LC μ t) = nI 1 from h4))
    · obtain ⟨k1, k2, k3⟩ := e k hk
      rw [g3, k3, Int32.add_comm, nI_1] at h4
      exact Or.inr ⟨k, hk, w2, (nI_eq (by omega) (by omega)).mp h4⟩
/-- chains from the ends of chains: how far it is to go -/
theorem lf_key {β μ : BS} (h : AL β μ) {t0 : Nat} : ∀ (M d i : Nat) (a : Int32), i + M ≤ 20 → M < d → (∀ j, cM μ ≤ j → j < 32 → bt a j = false) → (∀ u, u < cM μ → bt a u = true → LC μ u ≤ M) → (M = 0 ∨ ∃ u, u < cM μ ∧ bt a u = true ∧ LC μ u = M) → fX1_longestFrom_R7 β t0 d i a = nI (i + M) := by
  have hn := h.n20
  intro M
  induction M with
  | zero =>
    intro d i a hi hd h1 h2 h3
    obtain ⟨d', rfl⟩ : ∃ d', d = d' + 1 := ⟨d - 1, by omega⟩
    rw [fX1_longestFrom_R7, if_pos]
    · rfl
    · refine bt_z.mpr fun j hj => tf_of fun w => ?_
      rcases Nat.lt_or_ge j (cM μ) with c | c
      · have := h2 j c w
        have := (LC_spec h c).1
        omega
      · rw [h1 j c hj] at w; cases w
  | succ M ih =>
    intro d i a hi hd h1 h2 h3
    obtain ⟨d', rfl⟩ : ∃ d', d = d' + 1 := ⟨d - 1, by omega⟩
    rcases h3 with h3 | ⟨u, hu, w, hM⟩
    · omega
    · rw [fX1_longestFrom_R7, if_neg (nz_bt.mpr ⟨u, by omega, w⟩), if_neg (show ¬ (20 : Int32) ≤ nI i from fun q => by
        have := (nI_leI (a := 20) (b := i) (by omega) (by omega)).mp q
        omega)]
      refine (ih d' (i + 1) _ (by omega) (by omega) (fun j g1 g2 => ?_) (fun v hv wv => ?_) ?_).trans (congrArg nI (by omega))
      · refine tf_of fun q => ?_
        obtain ⟨k, hk, -, q2⟩ := (nba_or h).mp q
        rw [h.nb hk g1 g2] at q2; cases q2
      · obtain ⟨k, hk, q1, q2⟩ := (nba_or h).mp wv
        have := h2 k hk q1
        have := (LC_spec h hk).2.2.2.1 v hv q2
        omega
      · rcases (LC_spec h hu).2.2.2.2 with e | ⟨v, hv, q1, q2⟩
        · exact Or.inl (by omega)
        · exact Or.inr ⟨v, hv, (nba_or h).mpr ⟨u, hu, w, q1⟩, by omega⟩
theorem longest_eq {β μ : BS} (h : AL β μ) {t : Nat} (ht : t < cM μ) : fX1_longestFrom β t = (fX7_chainFrom μ t).1 := by
  have hn := h.n20
  obtain ⟨l1, l2, l3, -⟩ := LC_spec h ht
  unfold fX1_longestFrom fX7_chainFrom
  show _ = (fX7_tellsChains μ false).2 8 t
  rw [l3, show nI (LC μ t) = nI (0 + LC μ t) from by rw [Nat.zero_add]]
  have hb : ∀ j, j < 32 → (bt (fX6_setOf (nI t)) j = true ↔ j = t) := fun j hj => by
    show bt (s1 t) j = true ↔ _
    rw [bt_s1 (by omega) hj]; simp
  refine lf_key h _ _ _ _ (by omega) (by omega) (fun j g1 g2 => tf_of fun w => ?_) (fun u hu w => ?_) (Or.inr ⟨t, ht, (hb t (by omega)).mpr rfl, rfl⟩)
  · have := (hb j g2).mp w
    omega
  · rw [(hb u (by omega)).mp w]; exact Nat.le_refl _
