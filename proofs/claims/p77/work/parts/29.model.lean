/-! ===== the model: what its methods ask of its state ===== -/
theorem nx_add {x y : Int32} {a b : Nat} (hx : x = nI a) (hy : y = nI b) : x + y = nI (a + b) := by rw [hx, hy, nI_add]
theorem nx_mul {x y : Int32} {a b : Nat} (hx : x = nI a) (hy : y = nI b) : x * y = nI (a * b) := by rw [hx, hy, pk_mul]
/-- how many tickets; the text's length; where the reading is; how many orders are read; how many states are saved -/
def cM (μ : BS) : Nat := (μ.2 0 0).toNatClampNeg
def tl (μ : BS) : Nat := (μ.1 2).toNatClampNeg
def ta (μ : BS) : Nat := (μ.1 3).toNatClampNeg
def rm (μ : BS) : Nat := (μ.1 5).toNatClampNeg
def sm (μ : BS) : Nat := (μ.1 1).toNatClampNeg
/-- a row that tells a tracker -/
def vS (f : Nat → Int32) : Prop := (f 0).toNatClampNeg ≤ 20 ∧ f 0 = nI (f 0).toNatClampNeg ∧ ∀ t : Nat, t < 20 → (∃ j : Nat, j < 6 ∧ f (13 + 10 * t + 3) = nI j) ∧ ∃ j : Nat, j < 5 ∧ f (13 + 10 * t + 4) = nI j
def vK (μ : BS) : Prop := vS (μ.2 1) ∧ (∀ r : Nat, r < 6 → vS (fun k => μ.2 2 (213 * r + k))) ∧ (∀ r : Nat, r < 2 → vS (fun k => μ.2 3 (213 * r + k))) ∧ sm μ ≤ 6 ∧ μ.1 1 = nI (sm μ) ∧ ∀ i : Nat, i < 2 → μ.2 4 i = b2i (i2b (μ.2 4 i))
def vL (μ : BS) : Prop := tl μ ≤ 60 ∧ μ.1 2 = nI (tl μ)
def vP (μ : BS) : Prop := ta μ ≤ 60 ∧ μ.1 3 = nI (ta μ) ∧ μ.1 4 = b2i (i2b (μ.1 4)) ∧ rm μ ≤ 31 ∧ μ.1 5 = nI (rm μ) ∧ ∀ k : Nat, k < rm μ → μ.2 6 (3 * k) = 97 → ∃ j : Nat, j < 5 ∧ μ.2 6 (3 * k + 2) = nI j
def vM (μ : BS) : Prop := vS (μ.2 0) ∧ vK μ ∧ vL μ ∧ vP μ
theorem vM_s {μ : BS} {f : Nat → Int32} (h : vM μ) (hf : vS f) : vM (sA μ 0 f) := ⟨hf, h.2⟩
theorem vS_low {f : Nat → Int32} {i : Nat} {v : Int32} (h : vS f) (h0 : 0 < i) (h1 : i < 13) : vS (upd f i v) := by
  obtain ⟨h2, h3, h4⟩ := h
  have e0 : upd f i v 0 = f 0 := pk_un (by omega)
  refine ⟨by rw [e0]; exact h2, by rw [e0]; exact h3, fun t ht => ?_⟩
  rw [pk_un (show 13 + 10 * t + 3 ≠ i by omega), pk_un (show 13 + 10 * t + 4 ≠ i by omega)]
  exact h4 t ht
theorem vS_lay {f : Nat → Int32} {t w : Nat} {v : Int32} (h : vS f) (hw : w < 10) (h3 : w = 3 → ∃ j : Nat, j < 6 ∧ v = nI j) (h4 : w = 4 → ∃ j : Nat, j < 5 ∧ v = nI j) : vS (upd f (13 + 10 * t + w) v) := by
  obtain ⟨g1, g2, g3⟩ := h
  have e0 : upd f (13 + 10 * t + w) v 0 = f 0 := pk_un (by omega)
  refine ⟨by rw [e0]; exact g1, by rw [e0]; exact g2, fun u hu => ⟨?_, ?_⟩⟩
  · by_cases e : u = t ∧ w = 3
    · obtain ⟨rfl, rfl⟩ := e
      rw [pk_us]
      exact h3 rfl
    · rw [pk_un (by omega)]
      exact (g3 u hu).1
  · by_cases e : u = t ∧ w = 4
    · obtain ⟨rfl, rfl⟩ := e
      rw [pk_us]
      exact h4 rfl
    · rw [pk_un (by omega)]
      exact (g3 u hu).2
theorem vS_inc {f : Nat → Int32} {v : Int32} {c : Nat} (h : vS f) (hc : c ≤ 20) (hv : v = nI c) : vS (upd f 0 v) := by
  obtain ⟨g1, g2, g3⟩ := h
  have e0 : upd f 0 v 0 = nI c := hv
  refine ⟨by rw [e0, nI_clamp (by omega)]; exact hc, by rw [e0, nI_clamp (by omega)], fun t ht => ?_⟩
  rw [pk_un (show 13 + 10 * t + 3 ≠ 0 by omega), pk_un (show 13 + 10 * t + 4 ≠ 0 by omega)]
  exact g3 t ht
/-- the same but for one row -/
def eqX (k : Nat) (μ ν : BS) : Prop := ν.1 = μ.1 ∧ ∀ j : Nat, j ≠ k → ν.2 j = μ.2 j
theorem eqX_refl (k : Nat) (μ : BS) : eqX k μ μ := ⟨rfl, fun _ _ => rfl⟩
theorem eqX_e {k : Nat} {μ ν : BS} {i : Nat} {v : Int32} (h : eqX k μ ν) : eqX k μ (sE ν k i v) := ⟨h.1, fun j hj => (if_neg hj).trans (h.2 j hj)⟩
def fX7_in (v : Int32) (a : Int32) (b : Int32) : Bool :=
  if v < a then false else (if b < v then false else true)
def fX7_bits_L4 (x : Int32) (i4 : Nat) (t4 : Int32) : Int32 :=
  t4 + ((x >>> ((nI i4) &&& 31)) &&& 1)
def fX7_bits (x : Int32) : Int32 :=
  (lpF (fX7_bits_L4 x) 0 20)
def fX7_of (μ : BS) (t : Nat) (w : Nat) : Int32 :=
  μ.2 0 ((13 + (10 * t)) + w)
def fX7_lay (μ : BS) (t : Nat) (w : Nat) (v : Int32) : BS :=
  sE μ 0 ((13 + (10 * t)) + w) v
theorem vM_lay {μ : BS} {t w : Nat} {v : Int32} (h : vM μ) (hw : w < 10) (h3 : w = 3 → ∃ j : Nat, j < 6 ∧ v = nI j) (h4 : w = 4 → ∃ j : Nat, j < 5 ∧ v = nI j) : vM (fX7_lay μ t w v) := vM_s h (vS_lay h.1 hw h3 h4)
theorem vM_layD {μ : BS} {t w : Nat} {v : Int32} (h : vM μ) (hw : decide (w < 10 ∧ w ≠ 3 ∧ w ≠ 4) = true) : vM (fX7_lay μ t w v) := by
  have h2 : w < 10 ∧ w ≠ 3 ∧ w ≠ 4 := of_decide_eq_true hw
  exact vM_lay h h2.1 (fun e => absurd e h2.2.1) (fun e => absurd e h2.2.2)
def fX7_isLeft (μ : BS) (t : Nat) : Bool :=
  if 3 ≤ (fX7_of μ t 2) then false else true
def fX7_left_L4 (μ : BS) (i4 : Nat) (t4 : Int32) : Int32 :=
  if (fX7_isLeft μ i4) = true then t4 ||| (1 <<< ((nI i4) &&& 31)) else t4 ||| 0
def fX7_left (μ : BS) : Int32 :=
  (lpF (fX7_left_L4 μ) 0 (cM μ))
def fX7_blockers (μ : BS) (t : Nat) : Int32 :=
  (fX7_of μ t 9) &&& (fX7_left μ)
def fX7_blocked_L4 (μ : BS) (i4 : Nat) (t4 : Int32) : Int32 :=
  if (fX7_blockers μ i4) = 0 then t4 ||| 0 else t4 ||| (1 <<< ((nI i4) &&& 31))
def fX7_blocked (μ : BS) : Int32 :=
  (lpF (fX7_blocked_L4 μ) 0 (cM μ))
