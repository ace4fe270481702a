/-! ===== the two sides at their start ===== -/
theorem iM_hi {k : Nat} (hk : 13 ≤ k) : iM.2 0 k = 0 := by
  show upd (upd (upd (upd (upd (upd (upd (upd (upd (fun _ => 0) 4 20) 5 20) 6 20) 7 20) 8 20) 9 10) 10 20) 11 30) 12 40 k = 0
  rw [pk_un (by omega), pk_un (by omega), pk_un (by omega), pk_un (by omega), pk_un (by omega), pk_un (by omega), pk_un (by omega), pk_un (by omega), pk_un (by omega)]
theorem z_nat : ∀ n : Nat, 0 < n → ∃ j : Nat, j < n ∧ (0 : Int32) = nI j := fun n hn => ⟨0, hn, rfl⟩
theorem vS_z {f : Nat → Int32} (h0 : f 0 = 0) (h : ∀ k, 13 ≤ k → f k = 0) : vS f := by
  refine ⟨?_, ?_, fun t _ => ⟨?_, ?_⟩⟩
  · rw [h0]; decide
  · rw [h0]; decide
  · rw [h _ (by omega)]; exact z_nat 6 (by decide)
  · rw [h _ (by omega)]; exact z_nat 5 (by decide)
theorem vM_init : vM iM := by
  refine ⟨vS_z rfl (fun k hk => iM_hi hk), ⟨vS_z rfl (fun k hk => rfl), fun r _ => vS_z rfl (fun k hk => rfl), fun r _ => vS_z rfl (fun k hk => rfl), ?_, ?_, fun i _ => ?_⟩, ⟨?_, ?_⟩, ⟨?_, ?_, ?_, ?_, ?_, fun k hk => ?_⟩⟩
  · show (0 : Int32).toNatClampNeg ≤ 6; decide
  · show (0 : Int32) = nI (0 : Int32).toNatClampNeg; decide
  · show (0 : Int32) = b2i (i2b 0); decide
  · show (0 : Int32).toNatClampNeg ≤ 60; decide
  · show (0 : Int32) = nI (0 : Int32).toNatClampNeg; decide
  · show (0 : Int32).toNatClampNeg ≤ 60; decide
  · show (0 : Int32) = nI (0 : Int32).toNatClampNeg; decide
  · show (0 : Int32) = b2i (i2b 0); decide
  · show (0 : Int32).toNatClampNeg ≤ 31; decide
  · show (0 : Int32) = nI (0 : Int32).toNatClampNeg; decide
  · have hk : k < (0 : Int32).toNatClampNeg := hk
    rw [show (0 : Int32).toNatClampNeg = 0 by decide] at hk
    omega
theorem nT_init : nT (iM.2 0) = 0 := by
  show (0 : Int32).toNatClampNeg = 0
  decide
theorem AL_init : AL iB iM := by
  refine ⟨⟨?_, ?_, fun t _ => Or.inr ⟨0, by decide, rfl⟩⟩, vM_init.1, ⟨rfl, rfl, rfl, rfl⟩, fun o ho => ?_, fun m hm => ?_, fun t ht => ?_, fun t _ _ w _ => ?_, ⟨fun _ => 0, fun a b q => ?_⟩, fun o ho => ?_, ?_, ?_⟩
  · show (0 : Int32).toNatClampNeg ≤ 20; decide
  · show (0 : Int32) = nI (0 : Int32).toNatClampNeg; decide
  · rcases (show o = 0 ∨ o = 1 ∨ o = 2 ∨ o = 3 ∨ o = 4 by omega) with rfl | rfl | rfl | rfl | rfl <;> rfl
  · rcases (show m = 0 ∨ m = 1 ∨ m = 2 ∨ m = 3 by omega) with rfl | rfl | rfl | rfl <;> rfl
  · rw [nT_init] at ht; omega
  · exact iM_hi (by omega)
  · have := q.1
    rw [nT_init] at this
    omega
  · rw [load_SU, nT_init]
    rfl
  · show (0 : Int32) = nI (0 : Int32).toNatClampNeg; decide
  · show (0 : Int32).toNatClampNeg ≤ 999; decide
