/-! ===== sets and sums by loops ===== -/
theorem lpF_congr {α : Type} {f g : Nat → α → α} {a : α} : ∀ n, (∀ i x, i < n → f i x = g i x) → lpF f a n = lpF g a n
  | 0, _ => rfl
  | n + 1, h => by rw [lpF_1, lpF_1, lpF_congr n (fun i x hi => h i x (by omega)), h n _ (by omega)]
theorem lpF_invN {α : Type} {f : Nat → α → α} {a : α} (P : Nat → α → Prop) (h0 : P 0 a) : ∀ n, (∀ i x, i < n → P i x → P (i + 1) (f i x)) → P n (lpF f a n)
  | 0, _ => h0
  | n + 1, h => h n _ (by omega) (lpF_invN P h0 n (fun i x hi => h i x (by omega)))
theorem or_z (x : Int32) : x ||| 0 = x := bt_ext fun i _ => by rw [bt_or, bt_0, Bool.or_false]
theorem add_z (x : Int32) : x + 0 = x := Int32.add_zero x
/-- one ticket's set -/
def s1 (t : Nat) : Int32 := 1 <<< (nI t &&& 31)
theorem bt_s1 {t i : Nat} (ht : t < 32) (hi : i < 32) : bt (s1 t) i = decide (i = t) := bt_shl1 ht hi
theorem lpF_set {f : Nat → Int32 → Int32} {c : Nat → Bool} {n : Nat} (hn : n ≤ 32) (h : ∀ i x, i < n → f i x = if c i = true then x ||| s1 i else x) {j : Nat} (hj : j < 32) : bt (lpF f 0 n) j = (decide (j < n) && c j) := by
  have key : ∀ m, m ≤ n → bt (lpF f 0 m) j = (decide (j < m) && c j) := by
    intro m
    induction m with
    | zero => intro _; rw [lpF_0, bt_0]; simp
    | succ m ih =>
      intro hm
      rw [lpF_1, h m _ (by omega)]
      have e := ih (by omega)
      by_cases c1 : c m = true
      · rw [if_pos c1, bt_or, e, bt_s1 (by omega) hj]
        by_cases e2 : j = m
        · subst e2; simp [c1]
        · have : decide (j < m + 1) = decide (j < m) := by
            rw [decide_eq_decide]; omega
          rw [this]; simp [e2]
      · rw [if_neg c1, e]
        by_cases e2 : j = m
        · subst e2
          have c2 : c j = false := by simpa using c1
          rw [c2, Bool.and_false, Bool.and_false]
        · have : decide (j < m + 1) = decide (j < m) := by
            rw [decide_eq_decide]; omega
          rw [this]
  exact key n (Nat.le_refl _)
/-- a union of sets, by a loop -/
theorem lpF_or {f : Nat → Int32 → Int32} {s : Nat → Int32} {a : Int32} {n : Nat} (h : ∀ i x, i < n → f i x = x ||| s i) {j : Nat} : bt (lpF f a n) j = true ↔ bt a j = true ∨ ∃ i, i < n ∧ bt (s i) j = true := by
  have key : ∀ m, m ≤ n → (bt (lpF f a m) j = true ↔ bt a j = true ∨ ∃ i, i < m ∧ bt (s i) j = true) := by
    intro m
    induction m with
    | zero =>
      intro _
      rw [lpF_0]
      exact ⟨Or.inl, fun h => h.elim id (fun ⟨i, hi, _⟩ => absurd hi (by omega))⟩
    | succ m ih =>
      intro hm
      rw [lpF_1, h m _ (by omega), bt_or, Bool.or_eq_true, ih (by omega)]
      constructor
      · rintro ((h1 | ⟨i, hi, h1⟩) | h1)
        · exact Or.inl h1
        · exact Or.inr ⟨i, by omega, h1⟩
        · exact Or.inr ⟨m, by omega, h1⟩
      · rintro (h1 | ⟨i, hi, h1⟩)
        · exact Or.inl (Or.inl h1)
        · by_cases e : i = m
          · subst e; exact Or.inr h1
          · exact Or.inl (Or.inr ⟨i, by omega, h1⟩)
  exact key n (Nat.le_refl _)
theorem bt_eq {x y : Int32} (h : ∀ i, i < 32 → (bt x i = true ↔ bt y i = true)) : x = y := bt_ext fun i hi => Bool.eq_iff_iff.mpr (h i hi)
theorem bt_not (x : Int32) {i : Nat} (hi : i < 32) : bt (x ^^^ (-1)) i = !bt x i := by rw [bt_xor, bt_m1 hi, Bool.xor_true]
theorem isIn_bt {a : Int32} {t : Nat} (ht : t < 32) : fX6_isIn a (nI t) = bt a t := by
  unfold fX6_isIn
  by_cases h : bt a t = true
  · rw [if_neg (fun q => by rw [bt_in ht] at q; rw [h] at q; cases q), h]
  · have h2 : bt a t = false := by simpa using h
    rw [if_pos ((bt_in ht).mpr h2), h2]
theorem bt_small {n i : Nat} (hi : i < 32) : bt (nI n) i = n.testBit i := by
  unfold bt
  show (BitVec.ofNat 32 n).getLsbD i = _
  rw [BitVec.getLsbD_ofNat]
  simp [hi]
/-! ===== how many bits a number has ===== -/
theorem nd_split {k a r m M : Nat} (ha : a < 2 ^ k) (hm : m < 2 ^ k) : (2 ^ k * r + a) &&& (2 ^ k * M + m) = 2 ^ k * (r &&& M) + (a &&& m) := by
  apply Nat.eq_of_testBit_eq
  intro i
  rw [Nat.testBit_and, Nat.testBit_two_pow_mul_add _ ha, Nat.testBit_two_pow_mul_add _ hm, Nat.testBit_two_pow_mul_add _ (Nat.lt_of_le_of_lt Nat.and_le_left ha)]
  by_cases h : i < k
  · simp [h]
  · simp [h]
theorem nd8 {a r m M : Nat} (ha : a < 256) (hm : m < 256) : (256 * r + a) &&& (256 * M + m) = 256 * (r &&& M) + (a &&& m) := nd_split (k := 8) ha hm
def pz1 (a : Nat) : Nat := a - ((a / 2) &&& 85)
def pz2 (a : Nat) : Nat := (a &&& 51) + ((a / 4) &&& 51)
def pz3 (a : Nat) : Nat := (a + a / 16) &&& 15
theorem pz_u : ∀ a : Fin 256, ∀ k : Fin 2, (a.1 / 2 + 128 * k.1) &&& 85 = (a.1 / 2) &&& 85 := by decide +kernel
theorem pz_le : ∀ a : Fin 256, (a.1 / 2) &&& 85 ≤ a.1 := by decide +kernel
theorem pz_v : ∀ a : Fin 256, ∀ k : Fin 4, (a.1 / 4 + 64 * k.1) &&& 51 = (a.1 / 4) &&& 51 := by decide +kernel
theorem pz_w : ∀ a : Fin 69, ∀ k : Fin 16, k.1 ≤ 4 → (a.1 + a.1 / 16 + 16 * k.1) &&& 15 = pz3 a.1 := by decide +kernel
theorem pz_3 : ∀ a : Fin 256, pz3 (pz2 (pz1 a.1)) = pcn (fun i => a.1.testBit i) 8 := by decide +kernel
theorem pz_s1 {a r M : Nat} (ha : a < 256) : ((256 * r + a) / 2) &&& (256 * M + 85) = 256 * ((r / 2) &&& M) + ((a / 2) &&& 85) := by
  have e : (256 * r + a) / 2 = 256 * (r / 2) + (a / 2 + 128 * (r % 2)) := by omega
  rw [e, nd8 (by omega) (by omega), pz_u ⟨a, ha⟩ ⟨r % 2, by omega⟩]
theorem pz_s2 {a r M : Nat} (ha : a < 256) : ((256 * r + a) / 4) &&& (256 * M + 51) = 256 * ((r / 4) &&& M) + ((a / 4) &&& 51) := by
  have e : (256 * r + a) / 4 = 256 * (r / 4) + (a / 4 + 64 * (r % 4)) := by omega
  rw [e, nd8 (by omega) (by omega), pz_v ⟨a, ha⟩ ⟨r % 4, by omega⟩]
theorem nI_and (a b : Nat) (ha : a < 2 ^ 32) : nI a &&& nI b = nI (a &&& b) := by
  apply bt_ext
  intro i hi
  rw [bt_and, bt_small hi, bt_small hi, bt_small hi, Nat.testBit_and]
theorem ushr_nI : ∀ k : Fin 32, ∀ n : Nat, n < 2 ^ 31 → ushrF (nI n) (nI k.1) = nI (n / 2 ^ k.1) := by
  intro k n hn
  apply bt_ext
  intro i hi
  have h1 : ∀ k : Fin 32, ((nI k.1).toUInt32 &&& Int32.toUInt32 31).toNat % 32 = k.1 := by decide +kernel
  rw [bt_small hi]
  unfold ushrF bt
  have e2 : (((nI n).toUInt32 >>> ((nI k.1).toUInt32 &&& Int32.toUInt32 31)).toInt32).toBitVec = (nI n).toBitVec >>> (((nI k.1).toUInt32 &&& Int32.toUInt32 31).toNat % 32) := by
    show ((nI n).toUInt32 >>> ((nI k.1).toUInt32 &&& Int32.toUInt32 31)).toBitVec = _
    rw [UInt32.toBitVec_shiftRight]
    rw [BitVec.ushiftRight_eq']
    congr 1
  rw [e2, h1 k, BitVec.getLsbD_ushiftRight]
  show (BitVec.ofNat 32 n).getLsbD (k.1 + i) = _
  rw [BitVec.getLsbD_ofNat, Nat.testBit_div_two_pow, Nat.add_comm i k.1]
  by_cases h : k.1 + i < 32
  · simp [h]
  · have h9 : n.testBit (k.1 + i) = false := Nat.testBit_lt_two_pow (Nat.lt_of_lt_of_le hn (Nat.pow_le_pow_right (by decide) (by omega)))
    simp [h9]
theorem pz_2b : ∀ a : Fin 256, pz2 (pz1 a.1) < 69 ∧ pz2 (pz1 a.1) % 16 ≤ 4 ∧ pz1 a.1 < 256 := by decide +kernel
theorem pz_c1 : ∀ c : Fin 16, (c.1 / 2) &&& 21845 = (c.1 / 2) &&& 85 := by decide +kernel
theorem pz_c2 : ∀ c : Fin 16, (pz1 c.1) &&& 13107 = (pz1 c.1) &&& 51 := by decide +kernel
theorem pz_c3 : ∀ c : Fin 16, ((pz1 c.1) / 4) &&& 13107 = ((pz1 c.1) / 4) &&& 51 := by decide +kernel
theorem pz_c4 : ∀ c : Fin 69, (c.1 + c.1 / 16) &&& 3855 = pz3 c.1 := by decide +kernel
theorem pcn_8 (f : Nat → Bool) : pcn f 8 ≤ 8 := pcn_le f 8
theorem bc_nat {a b c : Nat} (ha : a < 256) (hb : b < 256) (hc : c < 16) : fJ6_bitCount_0f7a4 (nI (256 * (256 * c + b) + a)) = nI (pcn (fun i => a.testBit i) 8 + pcn (fun i => b.testBit i) 8 + pcn (fun i => c.testBit i) 8) := by
  obtain ⟨n, hn⟩ : ∃ n, 256 * (256 * c + b) + a = n := ⟨_, rfl⟩
  have e1 : nI n - ((ushrF (nI n) 1) &&& 1431655765) = nI (256 * (256 * pz1 c + pz1 b) + pz1 a) := by
    have h1 : ushrF (nI n) 1 = nI (n / 2) := ushr_nI ⟨1, by decide⟩ n (by omega)
    rw [h1, show (1431655765 : Int32) = nI 1431655765 from rfl, nI_and _ _ (by omega)]
    have h2 : (n / 2) &&& 1431655765 = 256 * (256 * ((c / 2) &&& 85) + ((b / 2) &&& 85)) + ((a / 2) &&& 85) := by
      rw [← hn, show (1431655765 : Nat) = 256 * 5592405 + 85 from rfl, pz_s1 ha, show (5592405 : Nat) = 256 * 21845 + 85 from rfl, pz_s1 hb, pz_c1 ⟨c, hc⟩]
    have g1 := pz_le ⟨a, ha⟩
    have g2 := pz_le ⟨b, hb⟩
    have g3 := pz_le ⟨c, by omega⟩
    rw [h2, pk_sub (by simp only [] at g1 g2 g3; omega)]
    congr 1
    unfold pz1
    simp only [] at g1 g2 g3
    omega
  obtain ⟨A1, A2, A3⟩ := pz_2b ⟨a, ha⟩
  obtain ⟨B1, B2, B3⟩ := pz_2b ⟨b, hb⟩
  obtain ⟨C1, C2, C3⟩ := pz_2b ⟨c, by omega⟩
  simp only [] at A1 A2 A3 B1 B2 B3 C1 C2 C3
  have e2 : ((nI (256 * (256 * pz1 c + pz1 b) + pz1 a)) &&& 858993459) + ((ushrF (nI (256 * (256 * pz1 c + pz1 b) + pz1 a)) 2) &&& 858993459) = nI (256 * (256 * pz2 (pz1 c) + pz2 (pz1 b)) + pz2 (pz1 a)) := by
    have h1 : ushrF (nI (256 * (256 * pz1 c + pz1 b) + pz1 a)) 2 = nI ((256 * (256 * pz1 c + pz1 b) + pz1 a) / 4) := ushr_nI ⟨2, by decide⟩ _ (by omega)
    rw [h1, show (858993459 : Int32) = nI 858993459 from rfl, nI_and _ _ (by omega), nI_and _ _ (by omega), nI_add]
    have h2 : (256 * (256 * pz1 c + pz1 b) + pz1 a) &&& 858993459 = 256 * (256 * ((pz1 c) &&& 51) + ((pz1 b) &&& 51)) + ((pz1 a) &&& 51) := by
      rw [show (858993459 : Nat) = 256 * 3355443 + 51 from rfl, nd8 A3 (by omega), show (3355443 : Nat) = 256 * 13107 + 51 from rfl, nd8 B3 (by omega), pz_c2 ⟨c, hc⟩]
    have h3 : ((256 * (256 * pz1 c + pz1 b) + pz1 a) / 4) &&& 858993459 = 256 * (256 * (((pz1 c) / 4) &&& 51) + (((pz1 b) / 4) &&& 51)) + (((pz1 a) / 4) &&& 51) := by
      rw [show (858993459 : Nat) = 256 * 3355443 + 51 from rfl, pz_s2 A3, show (3355443 : Nat) = 256 * 13107 + 51 from rfl, pz_s2 B3, pz_c3 ⟨c, hc⟩]
    rw [h2, h3]
    congr 1
    unfold pz2
    omega
  have e3 : ((nI (256 * (256 * pz2 (pz1 c) + pz2 (pz1 b)) + pz2 (pz1 a))) + (ushrF (nI (256 * (256 * pz2 (pz1 c) + pz2 (pz1 b)) + pz2 (pz1 a))) 4)) &&& 252645135 = nI (256 * (256 * pcn (fun i => c.testBit i) 8 + pcn (fun i => b.testBit i) 8) + pcn (fun i => a.testBit i) 8) := by
    generalize hA : pz2 (pz1 a) = A at *
    generalize hB : pz2 (pz1 b) = B at *
    generalize hC : pz2 (pz1 c) = D at *
    have h1 : ushrF (nI (256 * (256 * D + B) + A)) 4 = nI ((256 * (256 * D + B) + A) / 16) := ushr_nI ⟨4, by decide⟩ _ (by omega)
    rw [h1, nI_add, show (252645135 : Int32) = nI 252645135 from rfl, nI_and _ _ (by omega)]
    have h2 : (256 * (256 * D + B) + A) + (256 * (256 * D + B) + A) / 16 = 256 * (256 * (D + D / 16) + (B + B / 16 + 16 * (D % 16))) + (A + A / 16 + 16 * (B % 16)) := by omega
    have w1 := pz_w ⟨A, A1⟩ ⟨B % 16, by omega⟩ B2
    have w2 := pz_w ⟨B, B1⟩ ⟨D % 16, by omega⟩ C2
    have w3 := pz_c4 ⟨D, C1⟩
    have p1 := pz_3 ⟨a, ha⟩
    have p2 := pz_3 ⟨b, hb⟩
    have p3 := pz_3 ⟨c, by omega⟩
    simp only [] at w1 w2 w3 p1 p2 p3
    rw [hA] at p1
    rw [hB] at p2
    rw [hC] at p3
    rw [h2, show (252645135 : Nat) = 256 * 986895 + 15 from rfl, nd8 (by omega) (by omega), show (986895 : Nat) = 256 * 3855 + 15 from rfl, nd8 (by omega) (by omega), w1, w2, w3, p1, p2, p3]
  have q1 := pcn_8 (fun i => a.testBit i)
  have q2 := pcn_8 (fun i => b.testBit i)
  have q3 := pcn_8 (fun i => c.testBit i)
  unfold fJ6_bitCount_0f7a4
  rw [hn, e1, e2, e3]
  generalize pcn (fun i => a.testBit i) 8 = A at *
  generalize pcn (fun i => b.testBit i) 8 = B at *
  generalize pcn (fun i => c.testBit i) 8 = D at *
  have h8 : ushrF (nI (256 * (256 * D + B) + A)) 8 = nI ((256 * (256 * D + B) + A) / 256) := ushr_nI ⟨8, by decide⟩ _ (by omega)
  rw [h8, nI_add]
  have h16 : ushrF (nI ((256 * (256 * D + B) + A) + (256 * (256 * D + B) + A) / 256)) 16 = nI (((256 * (256 * D + B) + A) + (256 * (256 * D + B) + A) / 256) / 65536) := ushr_nI ⟨16, by decide⟩ _ (by omega)
  rw [h16, nI_add, show (63 : Int32) = nI 63 from rfl, nI_and _ _ (by omega)]
  congr 1
  rw [show (63 : Nat) = 2 ^ 6 - 1 from rfl, Nat.and_two_pow_sub_one_eq_mod]
  have d1 : (256 * (256 * D + B) + A) / 256 = 256 * D + B := by omega
  rw [d1]
  have d2 : (256 * (256 * D + B) + A + (256 * D + B)) / 65536 = D := by omega
  rw [d2]
  omega
theorem pcn_add (f : Nat → Bool) (m : Nat) : ∀ k, pcn f (m + k) = pcn f m + pcn (fun i => f (m + i)) k
  | 0 => rfl
  | k + 1 => by rw [← Nat.add_assoc, pcn, pcn, pcn_add f m k, Nat.add_assoc]
theorem bitCount_eq {x : Int32} (h : ∀ i, 20 ≤ i → i < 32 → bt x i = false) : fJ6_bitCount_0f7a4 x = nI (pcn (bt x) 20) := by
  obtain ⟨n, hn⟩ : ∃ n, x.toBitVec.toNat = n := ⟨_, rfl⟩
  have hx : x = nI n := by
    apply Int32.toBitVec_inj.mp
    show x.toBitVec = BitVec.ofNat 32 n
    rw [← hn, BitVec.ofNat_toNat, BitVec.setWidth_eq]
  have hlt : n < 2 ^ 32 := by rw [← hn]; exact x.toBitVec.isLt
  have hb : ∀ i, i < 32 → bt x i = n.testBit i := fun i hi => by rw [hx, bt_small hi]
  have h20 : n < 2 ^ 20 := by
    refine Nat.lt_pow_two_of_testBit n fun i hi => ?_
    by_cases h32 : i < 32
    · rw [← hb i h32]; exact h i hi h32
    · exact Nat.testBit_lt_two_pow (Nat.lt_of_lt_of_le hlt (Nat.pow_le_pow_right (by decide) (by omega)))
  have e : n = 256 * (256 * (n / 65536) + n / 256 % 256) + n % 256 := by omega
  have hc : n / 65536 < 16 := by omega
  rw [hx, show nI n = nI (256 * (256 * (n / 65536) + n / 256 % 256) + n % 256) from congrArg nI e, bc_nat (by omega) (by omega) hc]
  congr 1
  have t1 : ∀ i, i < 8 → (n % 256).testBit i = n.testBit i := fun i hi => by
    rw [show (256 : Nat) = 2 ^ 8 from rfl, Nat.testBit_mod_two_pow]
    simp [hi]
  have t2 : ∀ i, i < 8 → (n / 256 % 256).testBit i = n.testBit (8 + i) := fun i hi => by
    rw [show (256 : Nat) = 2 ^ 8 from rfl, Nat.testBit_mod_two_pow, Nat.testBit_div_two_pow, Nat.add_comm i 8]
    simp [hi]
  have t3 : ∀ i, i < 8 → (n / 65536).testBit i = n.testBit (16 + i) := fun i hi => by
    rw [show (65536 : Nat) = 2 ^ 16 from rfl, Nat.testBit_div_two_pow, Nat.add_comm i 16]
  have s : pcn (bt (nI (256 * (256 * (n / 65536) + n / 256 % 256) + n % 256))) 20 = pcn (fun i => n.testBit i) 20 := pcn_congr 20 fun i hi => by rw [← e, bt_small (by omega)]
  rw [s, show (20 : Nat) = 8 + 12 from rfl, pcn_add, show (12 : Nat) = 8 + 4 from rfl, pcn_add]
  rw [pcn_congr (g := fun i => n.testBit i) 8 t1, pcn_congr (g := fun i => n.testBit (8 + i)) 8 t2]
  have u : pcn (fun i => (n / 65536).testBit i) 8 = pcn (fun i => n.testBit (8 + (8 + i))) 4 := by
    rw [show (8 : Nat) = 4 + 4 from rfl, pcn_add]
    have z : pcn (fun i => (n / 65536).testBit (4 + i)) 4 = 0 := by
      rw [pcn_congr (g := fun _ => false) 4 (fun i hi => Nat.testBit_lt_two_pow (Nat.lt_of_lt_of_le hc (Nat.pow_le_pow_right (n := 2) (by decide) (show 4 ≤ 4 + i by omega))))]
      decide
    rw [z, Nat.add_zero]
    exact pcn_congr 4 fun i hi => by
      rw [t3 i (by omega)]
      congr 1
      omega
  rw [u]
  have e9 : pcn n.testBit 8 = pcn (fun i => n.testBit i) 8 := rfl
  omega
theorem bits_eq {x : Int32} : fX7_bits x = nI (pcn (bt x) 20) := by
  have key : ∀ m, m ≤ 20 → lpF (fX7_bits_L4 x) 0 m = nI (pcn (bt x) m) := by
    intro m
    induction m with
    | zero => intro _; rfl
    | succ m ih =>
      intro hm
      rw [lpF_1, ih (by omega), fX7_bits_L4, bt_ask (by omega), pcn]
      cases bt x m
      · rw [if_neg (by decide), if_neg (by decide), add_z]; rfl
      · rw [if_pos rfl, if_pos rfl]; exact nI_1 _
  exact key 20 (Nat.le_refl _)
