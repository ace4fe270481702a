def fX7_allNeeds_L20 (μ : BS) (t : Nat) (d10 : Nat) (t10 : Int32 × Int32) (i20 : Nat) (t20 : Int32) : Int32 :=
  if ((t20 >>> ((nI i20) &&& 31)) &&& 1) = 1 then t20 ||| (fX7_of μ i20 9) else t20 ||| 0
def fX7_allNeeds_R10 (μ : BS) (t : Nat) : Nat → (Int32 × Int32) → Int32
  | 0, _ => 0
  | d10 + 1, t10 => if t10.1 = t10.2 then t10.1 else fX7_allNeeds_R10 μ t d10 ((lpF (fX7_allNeeds_L20 μ t d10 t10) t10.1 (cM μ)), t10.1)
def fX7_allNeeds_R10_ok (μ : BS) (t : Nat) : Nat → (Int32 × Int32) → Bool
  | 0, _ => false
  | d10 + 1, t10 => if t10.1 = t10.2 then true else fX7_allNeeds_R10_ok μ t d10 ((lpF (fX7_allNeeds_L20 μ t d10 t10) t10.1 (cM μ)), t10.1)
def fX7_allNeeds (μ : BS) (t : Nat) : Int32 :=
  fX7_allNeeds_R10 μ t 35 ((fX7_of μ t 9), (-1))
theorem okAN {μ : BS} {t : Nat} : ∀ (d : Nat) (x y : Int32), (∀ i, i < 32 → bt y i = true → bt x i = true) → 33 ≤ d + pcn (bt y) 32 → fX7_allNeeds_R10_ok μ t d (x, y) = true := by
  intro d
  induction d with
  | zero => intro x y h h2; have := pcn_le (bt y) 32; omega
  | succ d ih =>
    intro x y h h2
    rw [fX7_allNeeds_R10_ok]
    by_cases e : x = y
    · rw [if_pos e]
    · rw [if_neg e]
      refine ih _ _ ?_ ?_
      · intro i hi hb
        refine lpF_inv (P := fun z => bt z i = true) hb (fun j z hz => ?_) (cM μ)
        unfold fX7_allNeeds_L20
        split <;> (rw [bt_or, hz]; rfl)
      · have := bt_grow h (fun q => e q.symm)
        show 33 ≤ d + pcn (bt x) 32
        omega
theorem okAN0 {μ : BS} {t : Nat} {x y : Int32} : fX7_allNeeds_R10_ok μ t 35 (x, y) = true := by
  rw [fX7_allNeeds_R10_ok]
  by_cases e : x = y
  · rw [if_pos e]
  · rw [if_neg e]
    refine okAN 34 _ _ ?_ (by omega)
    intro i hi hb
    refine lpF_inv (P := fun z => bt z i = true) hb (fun j z hz => ?_) (cM μ)
    unfold fX7_allNeeds_L20
    split <;> (rw [bt_or, hz]; rfl)
def fX7_tellsChains_L62 (μ : BS) (b : Bool) (d13 : Nat) (t13 : Int32 × BS) (i21 : Nat) (t21 : Int32 × BS) (i62 : Nat) (t62 : Int32) : Int32 :=
  if (((fX7_of (t21.2) i21 9) >>> ((nI i62) &&& 31)) &&& 1) = 1 then (if ((t21.2).2 8 i62) ≤ t62 then t62 else (t21.2).2 8 i62) else t62
def fX7_tellsChains_L21 (μ : BS) (b : Bool) (d13 : Nat) (t13 : Int32 × BS) (i21 : Nat) (t21 : Int32 × BS) : Int32 × BS :=
  if (((t21.1) >>> ((nI i21) &&& 31)) &&& 1) = 0 then (if ((fX7_of (t21.2) i21 9) &&& ((t21.1) ^^^ (-1))) = 0 then (if b = true then (if (fX7_isLeft (t21.2) i21) = true then ((t21.1) ||| (1 <<< ((nI i21) &&& 31)), sE (t21.2) 8 i21 ((fX7_of (t21.2) i21 0) + (lpF (fX7_tellsChains_L62 μ b d13 t13 i21 t21) 0 (cM μ)))) else ((t21.1) ||| (1 <<< ((nI i21) &&& 31)), sE (t21.2) 8 i21 (0 + (lpF (fX7_tellsChains_L62 μ b d13 t13 i21 t21) 0 (cM μ))))) else ((t21.1) ||| (1 <<< ((nI i21) &&& 31)), sE (t21.2) 8 i21 (1 + (lpF (fX7_tellsChains_L62 μ b d13 t13 i21 t21) 0 (cM μ))))) else (t21.1, t21.2)) else (t21.1, t21.2)
def fX7_tellsChains_R13 (μ : BS) (b : Bool) : Nat → (Int32 × BS) → BS
  | 0, _ => μ
  | d13 + 1, t13 => if t13.1 = ((1 <<< ((μ.2 0 0) &&& 31)) - 1) then t13.2 else fX7_tellsChains_R13 μ b d13 ((lpF (fX7_tellsChains_L21 μ b d13 t13) (t13.1, t13.2) (cM μ)).1, (lpF (fX7_tellsChains_L21 μ b d13 t13) (t13.1, t13.2) (cM μ)).2)
def fX7_tellsChains_R13_ok (μ : BS) (b : Bool) : Nat → (Int32 × BS) → Bool
  | 0, _ => false
  | d13 + 1, t13 => if t13.1 = ((1 <<< ((μ.2 0 0) &&& 31)) - 1) then true else fX7_tellsChains_R13_ok μ b d13 ((lpF (fX7_tellsChains_L21 μ b d13 t13) (t13.1, t13.2) (cM μ)).1, (lpF (fX7_tellsChains_L21 μ b d13 t13) (t13.1, t13.2) (cM μ)).2)
def fX7_tellsChains (μ : BS) (b : Bool) : BS :=
  fX7_tellsChains_R13 μ b 22 (0, μ)
def fX7_chainFrom (μ : BS) (t : Nat) : Int32 × BS :=
  ((fX7_tellsChains μ false).2 8 t, (fX7_tellsChains μ false))
def fX7_critical_L9 (μ : BS) (i9 : Nat) (t9 : Int32) : Int32 :=
  if ((fX7_tellsChains μ true).2 8 i9) ≤ t9 then t9 else (fX7_tellsChains μ true).2 8 i9
def fX7_critical (μ : BS) : Int32 × BS :=
  ((lpF (fX7_critical_L9 μ) 0 (cM μ)), (fX7_tellsChains μ true))
