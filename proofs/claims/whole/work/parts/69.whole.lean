/-! ===== the text read whole ===== -/
theorem kinds : ∀ v : Fin 127, fX7_isOrder (nI v.1) = true → v.1 = 111 ∨ v.1 = 110 ∨ v.1 = 97 ∨ v.1 = 115 ∨ v.1 = 114 ∨ v.1 = 99 ∨ v.1 = 101 := by decide +kernel
theorem no_kind : ∀ v : Fin 127, ¬ fX7_isOrder (nI v.1) = true → ¬ nI v.1 = 97 ∧ ¬ nI v.1 = 99 ∧ ¬ nI v.1 = 101 ∧ ¬ nI v.1 = 110 ∧ ¬ nI v.1 = 111 ∧ ¬ nI v.1 = 114 ∧ ¬ nI v.1 = 115 := by decide +kernel
theorem sI_id {β : BS} {k : Nat} {x : Int32} (h : β.1 k = x) : sI β k x = β := by
  refine Prod.ext (funext fun j => ?_) rfl
  show (if j = k then x else β.1 j) = β.1 j
  by_cases e : j = k
  · subst e; rw [if_pos rfl, h]
  · rw [if_neg e]
theorem ro_at {θ μ : BS} {L p c : Nat} (h : PR θ μ L p c) (h3 : 3 * c ≤ p) : RES θ μ L p c (fX4_readOrder θ).1 (fX4_readOrder θ).2 (fX7_readsOrder μ) := by
  have hL := h.1.2.2.1
  have hp := h.1.2.2.2.2.2.2
  obtain ⟨v, hv, es, -, ep, eL⟩ := sg_at h.1
  have hpos : pos θ = p := by unfold pos; rw [h.1.2.2.2.2.1, nI_clamp (by omega)]
  have hrm : rm μ = c := by unfold rm; rw [h.2.2.1, nI_clamp (by omega)]
  by_cases ho : fX7_isOrder (nI v) = true
  · have hk : v = 111 ∨ v = 110 ∨ v = 97 ∨ v = 115 ∨ v = 114 ∨ v = 99 ∨ v = 101 := kinds ⟨v, by omega⟩ ho
    have hpl : p < L := by
      rcases Nat.lt_or_ge p L with q | q
      · exact q
      · have := eL q
        omega
    have hc : c ≤ 19 := by omega
    have ev := (ep hpl).1
    obtain ⟨M, hM⟩ : ∃ M, M = sE (sE (sI (sI μ 4 1) 3 (nI (p + 1))) 6 (3 * c) (nI v)) 6 (3 * c + 2) 1 := ⟨_, rfl⟩
    have m : MF μ M p c v := by
      rw [hM]
      refine ⟨rfl, rfl, rfl, rfl, h.2.2.1, ?_, sE_s, fun i hi => ?_⟩
      · exact (sE_o (by omega)).trans sE_s
      · exact (sE_o (by omega)).trans (sE_o (β := sI (sI μ 4 1) 3 (nI (p + 1))) (by omega))
    have eM : sE (sE (sI (sI μ 4 (b2i (fX7_isOrder (fX7_sign μ)))) 3 ((μ.1 3) + 1)) 6 (3 * (rm μ)) (fX7_sign μ)) 6 ((3 * (rm μ)) + 2) 1 = M := by
      rw [es, ho, hrm, h.1.2.2.2.2.2.1, nI_1, hM]
      rfl
    have y3 : fX7_readsOrder_Y3 μ = fX7_number M (nI 0) (nI 19) := by unfold fX7_readsOrder_Y3; rw [eM]; rfl
    have y8 : fX7_readsOrder_Y8 μ = fX7_number M (nI 1) (nI 30) := by unfold fX7_readsOrder_Y8; rw [eM]; rfl
    have y9 : fX7_readsOrder_Y9 μ = fX7_number M (nI 1) (nI 13) := by unfold fX7_readsOrder_Y9; rw [eM]; rfl
    have y10 : fX7_readsOrder_Y10 μ = fX7_number (sI (sE (fX7_readsOrder_Y9 μ).2 6 (3 * c + 1) (fX7_readsOrder_Y9 μ).1) 3 ((fX7_readsOrder_Y9 μ).2.1 3 + 1)) (nI 0) (nI 3) := by unfold fX7_readsOrder_Y10; rw [hrm]; rfl
    have y4 : fX7_readsOrder_Y4 μ = fX7_reads (sE (fX7_readsOrder_Y3 μ).2 6 (3 * c + 1) (fX7_readsOrder_Y3 μ).1) (nI 64) (nI 64) := by unfold fX7_readsOrder_Y4; rw [hrm]; rfl
    have y6 : fX7_readsOrder_Y6 μ = fX7_reads (sE (fX7_readsOrder_Y3 μ).2 6 (3 * c + 1) (fX7_readsOrder_Y3 μ).1) (nI 62) (nI 62) := by unfold fX7_readsOrder_Y6; rw [hrm]; rfl
    have y5 : fX7_readsOrder_Y5 μ = fX7_number (fX7_readsOrder_Y4 μ).2 (nI 0) (nI 4) := rfl
    have y7 : fX7_readsOrder_Y7 μ = fX7_number (fX7_readsOrder_Y6 μ).2 (nI 0) (nI 19) := rfl
    have hlt : θ.1 1 < θ.1 0 := by rw [h.1.1, h.1.2.2.2.2.1]; exact (nI_ltI (by omega) (by omega)).mpr hpl
    have hβ : fX4_readOrder θ = (if nI v = 97 then ((fX4_readPair θ 64 4).1, (fX4_readPair θ 64 4).2) else (if nI v = 99 then ((fX4_readSingle θ 0 19).1, (fX4_readSingle θ 0 19).2) else (if nI v = 101 then ((fX4_readSingle θ 1 30).1, (fX4_readSingle θ 1 30).2) else (if nI v = 110 then ((fX4_readPair θ 62 19).1, (fX4_readPair θ 62 19).2) else (if nI v = 111 then ((fX4_readOpening θ).1, (fX4_readOpening θ).2) else (if nI v = 114 then ((fX4_readSingle θ 0 19).1, (fX4_readSingle θ 0 19).2) else (if nI v = 115 then ((fX4_readSingle θ 0 19).1, (fX4_readSingle θ 0 19).2) else (false, θ)))))))) := by
      unfold fX4_readOrder
      rw [if_pos hlt, hpos, ev]
    have hμ := (show fX7_readsOrder μ = fX7_readsOrder μ from rfl)
    conv at hμ => rhs; unfold fX7_readsOrder
    rw [es, if_pos ho, hrm] at hμ
    rw [hβ, hμ]
    clear hμ hβ hM eM
    rcases hk with hk | hk | hk | hk | hk | hk | hk
    all_goals (have hk : v = _ := hk; subst hk)
    · rw [if_neg (show ¬ nI 111 = 97 by decide), if_neg (show ¬ nI 111 = 99 by decide), if_neg (show ¬ nI 111 = 101 by decide), if_neg (show ¬ nI 111 = 110 by decide), if_pos (show nI 111 = 111 from rfl), if_pos (show nI 111 = 111 from rfl)]
      exact opening_at h m hpl hc ev y9 y10
    · rw [if_neg (show ¬ nI 110 = 97 by decide), if_neg (show ¬ nI 110 = 99 by decide), if_neg (show ¬ nI 110 = 101 by decide), if_pos (show nI 110 = 110 from rfl), if_neg (show ¬ nI 110 = 111 by decide), if_neg (show ¬ nI 110 = 101 by decide), if_pos (show nI 110 = 110 from rfl)]
      exact pair_at h m hpl hc (by omega) ev (s := 62) (b := 19) (by omega) (by omega) (by omega) (fun x y hx hy => Or.inr (Or.inl ⟨rfl, hx, hy⟩)) y3 y6 y7
    · rw [if_pos (show nI 97 = 97 from rfl), if_neg (show ¬ nI 97 = 111 by decide), if_neg (show ¬ nI 97 = 101 by decide), if_neg (show ¬ nI 97 = 110 by decide), if_pos (show nI 97 = 97 from rfl)]
      exact pair_at h m hpl hc (by omega) ev (s := 64) (b := 4) (by omega) (by omega) (by omega) (fun x y hx hy => Or.inl ⟨rfl, hx, hy⟩) y3 y4 y5
    · rw [if_neg (show ¬ nI 115 = 97 by decide), if_neg (show ¬ nI 115 = 99 by decide), if_neg (show ¬ nI 115 = 101 by decide), if_neg (show ¬ nI 115 = 110 by decide), if_neg (show ¬ nI 115 = 111 by decide), if_neg (show ¬ nI 115 = 114 by decide), if_pos (show nI 115 = 115 from rfl), if_neg (show ¬ nI 115 = 111 by decide), if_neg (show ¬ nI 115 = 101 by decide), if_neg (show ¬ nI 115 = 110 by decide), if_neg (show ¬ nI 115 = 97 by decide), y3]
      exact single_at h m hpl hc (by omega) ev (a := 0) (b := 19) (by omega) (by omega) (fun x _ hx => Or.inr (Or.inr (Or.inr (Or.inr ⟨by omega, hx⟩)))) (by omega)
    · rw [if_neg (show ¬ nI 114 = 97 by decide), if_neg (show ¬ nI 114 = 99 by decide), if_neg (show ¬ nI 114 = 101 by decide), if_neg (show ¬ nI 114 = 110 by decide), if_neg (show ¬ nI 114 = 111 by decide), if_pos (show nI 114 = 114 from rfl), if_neg (show ¬ nI 114 = 111 by decide), if_neg (show ¬ nI 114 = 101 by decide), if_neg (show ¬ nI 114 = 110 by decide), if_neg (show ¬ nI 114 = 97 by decide), y3]
      exact single_at h m hpl hc (by omega) ev (a := 0) (b := 19) (by omega) (by omega) (fun x _ hx => Or.inr (Or.inr (Or.inr (Or.inr ⟨by omega, hx⟩)))) (by omega)
    · rw [if_neg (show ¬ nI 99 = 97 by decide), if_pos (show nI 99 = 99 from rfl), if_neg (show ¬ nI 99 = 111 by decide), if_neg (show ¬ nI 99 = 101 by decide), if_neg (show ¬ nI 99 = 110 by decide), if_neg (show ¬ nI 99 = 97 by decide), y3]
      exact single_at h m hpl hc (by omega) ev (a := 0) (b := 19) (by omega) (by omega) (fun x _ hx => Or.inr (Or.inr (Or.inr (Or.inr ⟨by omega, hx⟩)))) (by omega)
    · rw [if_neg (show ¬ nI 101 = 97 by decide), if_neg (show ¬ nI 101 = 99 by decide), if_pos (show nI 101 = 101 from rfl), if_neg (show ¬ nI 101 = 111 by decide), if_pos (show nI 101 = 101 from rfl), y8]
      exact single_at h m hpl hc (by omega) ev (a := 1) (b := 30) (by omega) (by omega) (fun x hx1 hx => Or.inr (Or.inr (Or.inr (Or.inl ⟨rfl, hx1, hx⟩)))) (by omega)
  · obtain ⟨n1, n2, n3, n4, n5, n6, n7⟩ := no_kind ⟨v, by omega⟩ ho
    have hβ : fX4_readOrder θ = (false, sI θ 1 (nI p)) := by
      rw [sI_id h.1.2.2.2.2.1]
      unfold fX4_readOrder
      rcases Nat.lt_or_ge p L with q | q
      · rw [if_pos (show θ.1 1 < θ.1 0 by rw [h.1.1, h.1.2.2.2.2.1]; exact (nI_ltI (by omega) (by omega)).mpr q), hpos, (ep q).1, if_neg n1, if_neg n2, if_neg n3, if_neg n4, if_neg n5, if_neg n6, if_neg n7]
      · rw [if_neg (show ¬ θ.1 1 < θ.1 0 from fun z => by
          rw [h.1.1, h.1.2.2.2.2.1] at z
          have := (nI_ltI (a := p) (b := L) (by omega) (by omega)).mp z
          omega)]
    have hμ : fX7_readsOrder μ = sI (sE (sE (sI (sI μ 4 (b2i (fX7_isOrder (nI v)))) 3 ((μ.1 3) + 0)) 6 (3 * c) (nI v)) 6 ((3 * c) + 2) 1) 5 ((μ.1 5) + 0) := by
      unfold fX7_readsOrder
      rw [es, if_neg ho, if_neg n5, if_neg n3, hrm]
    rw [hβ, hμ, tf_of ho]
    refine RES_no h rfl rfl ?_ rfl ?_ (fun i hi => ?_) hp (Nat.le_refl _)
    · show μ.1 3 + 0 = _
      rw [add_z, h.1.2.2.2.2.2.1]
    · show μ.1 5 + 0 = _
      rw [add_z, h.2.2.1]
    · refine (sE_o (β := sE (sI (sI μ 4 (b2i false)) 3 ((μ.1 3) + 0)) 6 (3 * c) (nI v)) (k := 6) (i := 3 * c + 2) (j := i) (v := 1) (by omega)).trans ?_
      exact sE_o (β := sI (sI μ 4 (b2i false)) 3 ((μ.1 3) + 0)) (by omega)
