/-! ===== the text read: one order ===== -/
def OKd (z x y : Nat) : Prop := (z = 97 ∧ x ≤ 19 ∧ y ≤ 4) ∨ (z = 110 ∧ x ≤ 19 ∧ y ≤ 19) ∨ (z = 111 ∧ (1 ≤ x ∧ x ≤ 13) ∧ y ≤ 3) ∨ (z = 101 ∧ 1 ≤ x ∧ x ≤ 30) ∨ ((z = 99 ∨ z = 114 ∨ z = 115) ∧ x ≤ 19)
def OA (θ μ : BS) (k : Nat) : Prop := ∃ z x y : Nat, OKd z x y ∧ θ.2 1 k = nI z ∧ μ.2 6 (3 * k) = nI z ∧ θ.2 2 k = nI x ∧ μ.2 6 (3 * k + 1) = nI x ∧ ((z = 97 ∨ z = 110 ∨ z = 111) → θ.2 3 k = nI y ∧ μ.2 6 (3 * k + 2) = nI y)
def PR (θ μ : BS) (L p c : Nat) : Prop := PQ θ μ L p ∧ θ.1 2 = nI c ∧ μ.1 5 = nI c ∧ c ≤ 20 ∧ ∀ k, k < c → OA θ μ k
def RES (θ μ : BS) (L p c : Nat) (b : Bool) (θ' ν : BS) : Prop := ∃ p' c' : Nat, ν.1 4 = b2i b ∧ PR θ' ν L p' c' ∧ p ≤ p' ∧ (b = true → c' = c + 1 ∧ p + 2 ≤ p') ∧ (b = false → c' = c)
theorem OA_to {θ μ θ' ν : BS} {k : Nat} (h : OA θ μ k) (e1 : θ'.2 1 k = θ.2 1 k) (e2 : θ'.2 2 k = θ.2 2 k) (e3 : θ'.2 3 k = θ.2 3 k) (er : ∀ i, i < 3 * (k + 1) → ν.2 6 i = μ.2 6 i) : OA θ' ν k := by
  unfold OA at *
  rw [e1, e2, e3, er (3 * k) (by omega), er (3 * k + 1) (by omega), er (3 * k + 2) (by omega)]
  exact h
theorem RES_no {θ μ ν : BS} {L p q c : Nat} (h : PR θ μ L p c) (n2 : ν.1 2 = μ.1 2) (n5 : ν.2 5 = μ.2 5) (n3 : ν.1 3 = nI q) (n4 : ν.1 4 = 0) (nc : ν.1 5 = nI c) (nr : ∀ i, i < 3 * c → ν.2 6 i = μ.2 6 i) (hq : q ≤ L) (hpq : p ≤ q) : RES θ μ L p c false (sI θ 1 (nI q)) ν :=
  ⟨q, c, n4, ⟨PQ_to h.1 rfl n2 rfl n5 rfl n3 hq, h.2.1, nc, h.2.2.2.1, fun k hk => OA_to (h.2.2.2.2 k hk) rfl rfl rfl (fun i hi => nr i (by omega))⟩, hpq, (fun q => by cases q), fun _ => rfl⟩
theorem RES_ok {θ μ ν : BS} {L p q c z x y : Nat} (B : Int32) (h : PR θ μ L p c) (hc : c ≤ 19) (hd : OKd z x y) (n2 : ν.1 2 = μ.1 2) (n5 : ν.2 5 = μ.2 5) (n3 : ν.1 3 = nI q) (n4 : ν.1 4 = 1) (nc : ν.1 5 = nI (c + 1)) (nr : ∀ i, i < 3 * c → ν.2 6 i = μ.2 6 i) (n60 : ν.2 6 (3 * c) = nI z) (n61 : ν.2 6 (3 * c + 1) = nI x) (nB : (z = 97 ∨ z = 110 ∨ z = 111) → B = nI y ∧ ν.2 6 (3 * c + 2) = nI y) (hq : q ≤ L) (hpq : p + 2 ≤ q) : RES θ μ L p c true (sI (sE (sE (sE (sI θ 1 (nI q)) 1 c (nI z)) 2 c (nI x)) 3 c B) 2 (nI (c + 1))) ν := by
  refine ⟨q, c + 1, n4, ⟨PQ_to h.1 rfl n2 rfl n5 rfl n3 hq, rfl, nc, by omega, fun k hk => ?_⟩, by omega, fun _ => ⟨rfl, hpq⟩, fun q => by cases q⟩
  have e1 : (sI (sE (sE (sE (sI θ 1 (nI q)) 1 c (nI z)) 2 c (nI x)) 3 c B) 2 (nI (c + 1))).2 1 = upd (θ.2 1) c (nI z) := rfl
  have e2 : (sI (sE (sE (sE (sI θ 1 (nI q)) 1 c (nI z)) 2 c (nI x)) 3 c B) 2 (nI (c + 1))).2 2 = upd (θ.2 2) c (nI x) := rfl
  have e3 : (sI (sE (sE (sE (sI θ 1 (nI q)) 1 c (nI z)) 2 c (nI x)) 3 c B) 2 (nI (c + 1))).2 3 = upd (θ.2 3) c B := rfl
  by_cases e : k = c
  · subst e
    refine ⟨z, x, y, hd, ?_, n60, ?_, n61, fun w => ⟨?_, (nB w).2⟩⟩
    · rw [e1, pk_us]
    · rw [e2, pk_us]
    · rw [e3, pk_us]; exact (nB w).1
  · refine OA_to (h.2.2.2.2 k (by omega)) ?_ ?_ ?_ (fun i hi => nr i (by omega))
    · rw [e1, pk_un e]
    · rw [e2, pk_un e]
    · rw [e3, pk_un e]
theorem nar_c : ∀ z : Fin 127, vp_nar .char (nI z.1) = nI z.1 := by decide +kernel
theorem note_at {θ : BS} {c q z : Nat} (A B : Int32) (h2 : θ.1 2 = nI c) (hc : c ≤ 19) (hz : z ≤ 126) : fX4_noteOrder (sI θ 1 (nI q)) (nI z) A B = (true, sI (sE (sE (sE (sI θ 1 (nI q)) 1 c (nI z)) 2 c A) 3 c B) 2 (nI (c + 1))) := by
  have eo : oc (sI θ 1 (nI q)) = c := by
    show (θ.1 2).toNatClampNeg = c
    rw [h2, nI_clamp (by omega)]
  unfold fX4_noteOrder
  rw [eo, nar_c ⟨z, by omega⟩, if_pos (show (sI θ 1 (nI q)).1 2 < 20 from (by
    show θ.1 2 < 20
    rw [h2]
    exact (nI_ltI (a := c) (b := 20) (by omega) (by omega)).mpr (by omega)))]
  show (true, sI _ 2 (θ.1 2 + 1)) = _
  rw [h2, nI_1]
/-- the reference's state behind the kind of an order -/
def MF (μ M : BS) (p c v : Nat) : Prop := M.1 2 = μ.1 2 ∧ M.2 5 = μ.2 5 ∧ M.1 3 = nI (p + 1) ∧ M.1 4 = 1 ∧ M.1 5 = nI c ∧ M.2 6 (3 * c) = nI v ∧ M.2 6 (3 * c + 2) = 1 ∧ ∀ i, i < 3 * c → M.2 6 i = μ.2 6 i
theorem MF_pq {θ μ M : BS} {L p c v : Nat} (h : PR θ μ L p c) (m : MF μ M p c v) (hp : p < L) : PQ (sI θ 1 (nI (p + 1))) M L (p + 1) := PQ_to h.1 rfl m.1 rfl m.2.1 rfl m.2.2.1 (by omega)
theorem ne1 {x : Int32} (h : x = 1) : ¬ x = 0 := by rw [h]; decide
theorem single_at {θ μ M : BS} {L p c v a b : Nat} (h : PR θ μ L p c) (m : MF μ M p c v) (hp : p < L) (hc : c ≤ 19) (hv : v ≤ 126) (ev : θ.2 0 p = nI v) (ha : a ≤ 9) (hb : b ≤ 99) (hd : ∀ x, a ≤ x → x ≤ b → OKd v x 0) (hk : ¬ (v = 97 ∨ v = 110 ∨ v = 111)) :
    RES θ μ L p c (fX4_readSingle θ (nI a) (nI b)).1 (fX4_readSingle θ (nI a) (nI b)).2 (if (fX7_number M (nI a) (nI b)).2.1 4 = 0 then sI (sE (fX7_number M (nI a) (nI b)).2 6 (3 * c + 1) (fX7_number M (nI a) (nI b)).1) 5 ((fX7_number M (nI a) (nI b)).2.1 5 + 0) else sI (sE (fX7_number M (nI a) (nI b)).2 6 (3 * c + 1) (fX7_number M (nI a) (nI b)).1) 5 ((fX7_number M (nI a) (nI b)).2.1 5 + 1)) := by
  have hq := MF_pq h m hp
  obtain ⟨m2, m5, m3, m4, mc, m60, m62, mr⟩ := m
  have ep : pos θ = p := by unfold pos; rw [h.1.2.2.2.2.1, nI_clamp (by have := h.1.2.2.1; omega)]
  have e1 : θ.1 1 + 1 = nI (p + 1) := by rw [h.1.2.2.2.2.1, nI_1]
  unfold fX4_readSingle
  rw [e1, ep, ev]
  rcases num_at hq (ne1 m4) ha hb with ⟨g1, z, g2⟩ | ⟨d, k, k1, k2, k3, k4, g1, g2⟩
  · rw [g1, g2, if_pos rfl, if_pos (show (sI (sI M 4 0) 3 (nI (p + 1))).1 4 = 0 from rfl)]
    refine RES_no h m2 m5 rfl rfl ?_ (fun i hi => ?_) (by omega) (by omega)
    · show M.1 5 + 0 = _
      rw [add_z, mc]
    · exact (sE_o (β := sI (sI M 4 0) 3 (nI (p + 1))) (by omega)).trans (mr i hi)
  · rw [g1, g2, sI_sI, if_neg (nm1 (by omega)), note_at (nI d) (-1) h.2.1 hc hv, if_pos rfl, if_neg (show ¬ (sI (sI M 4 1) 3 (nI (p + 1 + k))).1 4 = 0 from (by decide : ¬ (1 : Int32) = 0))]
    refine RES_ok (y := 0) (-1) h hc (hd d k1 k2) m2 m5 rfl rfl ?_ (fun i hi => ?_) ?_ ?_ (fun w => absurd w hk) (by omega) (by omega)
    · show M.1 5 + 1 = _
      rw [mc, nI_1]
    · exact (sE_o (β := sI (sI M 4 1) 3 (nI (p + 1 + k))) (by omega)).trans (mr i hi)
    · exact (sE_o (β := sI (sI M 4 1) 3 (nI (p + 1 + k))) (by omega)).trans m60
    · exact sE_s (β := sI (sI M 4 1) 3 (nI (p + 1 + k))) (k := 6) (i := 3 * c + 1) (v := nI d)
