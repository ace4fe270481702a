/-! ===== sets as ints: their bits ===== -/
def bt (x : Int32) (i : Nat) : Bool := x.toBitVec.getLsbD i
theorem bt_ext {x y : Int32} (h : ∀ i, i < 32 → bt x i = bt y i) : x = y := Int32.toBitVec_inj.mp (BitVec.eq_of_getLsbD_eq h)
theorem bt_or (x y : Int32) (i : Nat) : bt (x ||| y) i = (bt x i || bt y i) := by unfold bt; rw [Int32.toBitVec_or, BitVec.getLsbD_or]
theorem bt_and (x y : Int32) (i : Nat) : bt (x &&& y) i = (bt x i && bt y i) := by unfold bt; rw [Int32.toBitVec_and, BitVec.getLsbD_and]
theorem bt_xor (x y : Int32) (i : Nat) : bt (x ^^^ y) i = (bt x i ^^ bt y i) := by unfold bt; rw [Int32.toBitVec_xor, BitVec.getLsbD_xor]
theorem bt_0 (i : Nat) : bt 0 i = false := by unfold bt; rw [show (0 : Int32).toBitVec = 0#32 from rfl, BitVec.getLsbD_zero]
theorem bt_m1 {i : Nat} (h : i < 32) : bt (-1) i = true := by unfold bt; rw [show (-1 : Int32).toBitVec = BitVec.allOnes 32 from by decide, BitVec.getLsbD_allOnes]; simp [h]
theorem bt_1 (i : Nat) : bt 1 i = decide (i = 0) := by unfold bt; rw [show (1 : Int32).toBitVec = 1#32 from rfl, BitVec.getLsbD_one]; simp
theorem sh_smod : ∀ t : Fin 32, ((nI t.1 &&& 31).toBitVec.smod 32).toNat = t.1 := by decide +kernel
theorem bt_shl1 {t : Nat} (ht : t < 32) {i : Nat} (hi : i < 32) : bt (1 <<< (nI t &&& 31)) i = decide (i = t) := by
  have e := sh_smod ⟨t, ht⟩
  unfold bt
  rw [Int32.toBitVec_shiftLeft, BitVec.shiftLeft_eq', e, BitVec.getLsbD_shiftLeft, show (1 : Int32).toBitVec = 1#32 from rfl, BitVec.getLsbD_one]
  by_cases h : i = t
  · subst h; simp [hi]
  · by_cases h2 : i < t
    · simp [h, h2]
    · have : i - t ≠ 0 := by omega
      simp [h, this]
theorem bt_shr {x : Int32} {t : Nat} (ht : t < 32) {i : Nat} (hi : t + i < 32) : bt (x >>> (nI t &&& 31)) i = bt x (t + i) := by
  have e := sh_smod ⟨t, ht⟩
  unfold bt
  rw [Int32.toBitVec_shiftRight, BitVec.getLsbD_sshiftRight', e]
  simp [hi]
  omega
/-- a bit, as the programs ask for it -/
theorem bt_ask {x : Int32} {t : Nat} (ht : t < 32) : (x >>> (nI t &&& 31)) &&& 1 = if bt x t then 1 else 0 := by
  apply bt_ext
  intro i hi
  rw [bt_and, bt_1]
  by_cases h : i = 0
  · subst h
    rw [bt_shr ht (by omega)]
    cases hb : bt x t <;> simp [hb, bt_0, bt_1]
  · cases bt x t <;> simp [h, bt_0, bt_1]
theorem bt_ask1 {x : Int32} {t : Nat} (ht : t < 32) : (x >>> (nI t &&& 31)) &&& 1 = 1 ↔ bt x t = true := by
  rw [bt_ask ht]; cases bt x t <;> decide
theorem bt_ask0 {x : Int32} {t : Nat} (ht : t < 32) : (x >>> (nI t &&& 31)) &&& 1 = 0 ↔ bt x t = false := by
  rw [bt_ask ht]; cases bt x t <;> decide
theorem bt_in {x : Int32} {t : Nat} (ht : t < 32) : x &&& (1 <<< (nI t &&& 31)) = 0 ↔ bt x t = false := by
  constructor
  · intro h
    have h2 : bt (x &&& (1 <<< (nI t &&& 31))) t = bt 0 t := by rw [h]
    rw [bt_and, bt_shl1 ht ht, bt_0] at h2
    simpa using h2
  · intro h
    apply bt_ext
    intro i hi
    rw [bt_and, bt_shl1 ht hi, bt_0]
    by_cases e : i = t
    · subst e; simp [h]
    · simp [e]
theorem bt_z {x : Int32} : x = 0 ↔ ∀ i, i < 32 → bt x i = false := by
  constructor
  · intro h i _; rw [h, bt_0]
  · intro h; exact bt_ext fun i hi => by rw [h i hi, bt_0]
/-- how many of the first n are -/
def pcn (f : Nat → Bool) : Nat → Nat
  | 0 => 0
  | n + 1 => pcn f n + (if f n then 1 else 0)
theorem pcn_le (f : Nat → Bool) : ∀ n, pcn f n ≤ n
  | 0 => Nat.le_refl _
  | n + 1 => by have := pcn_le f n; rw [pcn]; split <;> omega
theorem pcn_mono {f g : Nat → Bool} : ∀ n, (∀ i, i < n → f i = true → g i = true) → pcn f n ≤ pcn g n
  | 0, _ => Nat.le_refl _
  | n + 1, h => by
    have := pcn_mono n (fun i hi => h i (by omega))
    have h2 := h n (by omega)
    rw [pcn, pcn]
    cases hf : f n <;> cases hg : g n <;> simp_all <;> omega
theorem pcn_lt {f g : Nat → Bool} : ∀ n, (∀ i, i < n → f i = true → g i = true) → (∃ i, i < n ∧ f i = false ∧ g i = true) → pcn f n < pcn g n
  | 0, _, h => by obtain ⟨i, hi, _⟩ := h; omega
  | n + 1, h, h2 => by
    obtain ⟨i, hi, h3, h4⟩ := h2
    rw [pcn, pcn]
    by_cases e : i = n
    · subst e
      have := pcn_mono i (fun j hj => h j (by omega))
      simp [h3, h4]; omega
    · have h5 := pcn_lt n (fun j hj => h j (by omega)) ⟨i, by omega, h3, h4⟩
      have h6 := h n (by omega)
      cases hf : f n <;> cases hg : g n <;> simp_all <;> omega
theorem pcn_congr {f g : Nat → Bool} : ∀ n, (∀ i, i < n → f i = g i) → pcn f n = pcn g n
  | 0, _ => rfl
  | n + 1, h => by rw [pcn, pcn, pcn_congr n (fun i hi => h i (by omega)), h n (by omega)]
/-- what grows, if it isn't the same, has more bits -/
theorem bt_grow {x y : Int32} (h : ∀ i, i < 32 → bt x i = true → bt y i = true) (hne : x ≠ y) : pcn (bt x) 32 < pcn (bt y) 32 := by
  refine pcn_lt 32 h ?_
  by_cases h2 : ∃ i, i < 32 ∧ bt x i = false ∧ bt y i = true
  · exact h2
  · refine absurd (bt_ext fun i hi => ?_) hne
    have h3 := h i hi
    cases ex : bt x i <;> cases ey : bt y i
    · rfl
    · exact absurd ⟨i, hi, ex, ey⟩ h2
    · rw [h3 ex] at ey; cases ey
    · rfl
