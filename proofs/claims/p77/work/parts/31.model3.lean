def fX7_load_L4 (μ : BS) (o : Int32) (i4 : Nat) (t4 : Int32) : Int32 :=
  if (fX7_of μ i4 3) = (o + 1) then (if (fX7_isLeft μ i4) = true then t4 + (fX7_of μ i4 0) else t4 + 0) else t4 + 0
def fX7_load (μ : BS) (o : Int32) : Int32 :=
  (lpF (fX7_load_L4 μ o) 0 (cM μ))
theorem vM_low {μ : BS} {i : Nat} {v : Int32} (h : vM μ) (h0 : 0 < i) (h1 : i < 13) : vM (sE μ 0 i v) := vM_s h (vS_low h.1 h0 h1)
theorem vM_lowD {μ : BS} {i : Nat} {v : Int32} (h : vM μ) (hi : decide (0 < i ∧ i < 13) = true) : vM (sE μ 0 i v) := vM_low h (of_decide_eq_true hi).1 (of_decide_eq_true hi).2
theorem vM_inc {μ : BS} (h : vM μ) (hr : cM μ < 20) : vM (sE μ 0 0 (μ.2 0 0 + 1)) := vM_s h (vS_inc (c := cM μ + 1) h.1 (by omega) (nx_add h.1.2.1 rfl))
def fX7_opens (μ : BS) (p : Int32) (z : Int32) : Int32 × BS :=
  (μ.2 0 0, (fX7_lay (fX7_lay (fX7_lay (sE μ 0 0 ((μ.2 0 0) + 1)) (cM μ) 0 p) (cM μ) 1 z) (cM μ) 5 ((fX7_lay (fX7_lay (sE μ 0 0 ((μ.2 0 0) + 1)) (cM μ) 0 p) (cM μ) 1 z).2 0 1)))
theorem vM_opens {μ : BS} {p z : Int32} (h : vM μ) (hr : cM μ < 20) : vM (fX7_opens μ p z).2 := vM_layD (vM_layD (vM_layD (vM_inc h hr) rfl) rfl) rfl
def fX7_takesNeed (μ : BS) (t : Nat) (u : Int32) : Int32 × BS :=
  ((fX7_bits (fX7_of (fX7_lay μ t 9 ((fX7_of μ t 9) ^^^ (1 <<< (u &&& 31)))) t 9)), (fX7_lay μ t 9 ((fX7_of μ t 9) ^^^ (1 <<< (u &&& 31)))))
def fX7_assigns (μ : BS) (t : Nat) (o : Nat) : Int32 × BS :=
  ((fX7_load (fX7_lay μ t 3 ((nI o) + 1)) (nI o)), (fX7_lay μ t 3 ((nI o) + 1)))
theorem vM_assigns {μ : BS} {t o : Nat} (h : vM μ) (ho : o < 5) : vM (fX7_assigns μ t o).2 := vM_lay h (by decide) (fun _ => ⟨o + 1, by omega, nI_1 o⟩) (fun e => absurd e (by decide))
def fX7_ends_L12 (μ : BS) (d : Int32) (i12 : Nat) (t12 : BS) : BS :=
  if (fX7_of t12 i12 2) = 1 then (fX7_lay t12 i12 7 ((fX7_of t12 i12 7) + d)) else (fX7_lay t12 i12 7 ((fX7_of t12 i12 7) + 0))
def fX7_ends (μ : BS) (d : Int32) : Int32 × BS :=
  ((lpF (fX7_ends_L12 μ d) (sE μ 0 1 ((μ.2 0 1) + d)) (cM μ)).2 0 1, (lpF (fX7_ends_L12 μ d) (sE μ 0 1 ((μ.2 0 1) + d)) (cM μ)))
theorem vM_ends {μ : BS} {d : Int32} (hv : vM μ) : vM (fX7_ends μ d).2 := lpF_inv (P := fun x => vM x) (vM_lowD (i := 1) hv rfl) (fun i x h => by unfold fX7_ends_L12; split <;> exact vM_layD h rfl) (cM μ)
def fX7_closes (μ : BS) (t : Nat) : Int32 × BS :=
  ((fX7_bits (fX7_blocked μ)) - (fX7_bits (fX7_blocked (sE (fX7_lay (fX7_lay μ t 2 3) t 6 ((fX7_lay μ t 2 3).2 0 1)) 0 2 (((fX7_lay (fX7_lay μ t 2 3) t 6 ((fX7_lay μ t 2 3).2 0 1)).2 0 2) + 1)))), sE (fX7_lay (fX7_lay μ t 2 3) t 6 ((fX7_lay μ t 2 3).2 0 1)) 0 2 (((fX7_lay (fX7_lay μ t 2 3) t 6 ((fX7_lay μ t 2 3).2 0 1)).2 0 2) + 1))
def fX7_sumWith_L5 (μ : BS) (z : Int32) (b : Bool) (i5 : Nat) (t5 : Int32) : Int32 :=
  if (fX7_of μ i5 2) = z then (if b = true then t5 + (fX7_of μ i5 0) else t5 + 1) else t5 + 0
def fX7_sumWith (μ : BS) (z : Int32) (b : Bool) : Int32 :=
  (lpF (fX7_sumWith_L5 μ z b) 0 (cM μ))
