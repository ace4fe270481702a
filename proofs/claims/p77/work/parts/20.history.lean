def fX3_savedCount (η : BS) : Int32 :=
  η.1 1
theorem caX3_savedCount : gCalV yX3_savedCount cX3_savedCount 1 (some .int) 0 := ⟨⟨q1_202, q1_4, by decide +kernel⟩, q1_200, q1_201⟩
set_option maxHeartbeats 4000000 in
set_option maxRecDepth 100000 in
theorem kX3_savedCount (l : Launch) (E : gE) (ah : Nat → Nat) (bd : Nat → Nat → Nat) (η : BS)   : MC l E yX3_savedCount cX3_savedCount 1 (some .int) 0 0 [.ref (ah 0)] [wH E ah bd η] (some (.int (fX3_savedCount η))) [wH E ah bd η] := by
  refine mc_of (by decide +kernel) (Nat.le_of_ble_eq_true rfl) (lv := [(0, .ref (ah 0))]) rfl (fun X C hE => ?_)
  refine g_aload_n C dX3_savedCount_0 rfl 0 rfl ?_
  refine g_getf C (T := TX3) (N := 5) 0 0 rfl rfl rfl inX3 2 (by decide) q1_138 rfl dX3_savedCount_1 ?_
  have e_1 : fX3_savedCount η = η.1 1 := by rw [fX3_savedCount]
  exact g_iret C hE (by rw [e_1]) rfl dX3_savedCount_4
def fX3_hasKept (η : BS) (i : Nat) : Bool :=
  i2b (η.2 0 i)
def fX3_save (η : BS) (σ : Nat → BS) (β : BS) : BS × (Nat → BS) :=
  if (η.1 1) = 6 then (sI (sI (sI η 0 (iremF ((η.1 0) + 1) 6)) 1 (((sI η 0 (iremF ((η.1 0) + 1) 6)).1 1) - 1)) 1 (((sI (sI η 0 (iremF ((η.1 0) + 1) 6)) 1 (((sI η 0 (iremF ((η.1 0) + 1) 6)).1 1) - 1)).1 1) + 1), upB σ (2 + (((iremF (((sI (sI η 0 (iremF ((η.1 0) + 1) 6)) 1 (((sI η 0 (iremF ((η.1 0) + 1) 6)).1 1) - 1)).1 0) + ((sI (sI η 0 (iremF ((η.1 0) + 1) 6)) 1 (((sI η 0 (iremF ((η.1 0) + 1) 6)).1 1) - 1)).1 1)) 6)).toNatClampNeg)) β) else (sI η 1 ((η.1 1) + 1), upB σ (2 + (((iremF ((η.1 0) + (η.1 1)) 6)).toNatClampNeg)) β)
theorem caX3_save : gCalV yX3_save cX3_save 2 none 1 := ⟨⟨q3_60, q1_4, by decide +kernel⟩, q3_58, q3_59⟩
set_option maxHeartbeats 4000000 in
set_option maxRecDepth 100000 in
theorem kX3_save (l : Launch) (E : gE) (ah : Nat → Nat) (bd : Nat → Nat → Nat) (η : BS) (σ : Nat → BS) (ad : Nat → Nat) (β : BS) (hv : vH η)   : MC l E yX3_save cX3_save 2 none 3 66 [.ref (ah 0), .ref (ad 0)] [wH E ah bd η, wB E (bd 2) (σ 2), wB E (bd 3) (σ 3), wB E (bd 4) (σ 4), wB E (bd 5) (σ 5), wB E (bd 6) (σ 6), wB E (bd 7) (σ 7), wB E (bd 8) (σ 8), wB E (bd 9) (σ 9), wB E ad β] none [wH E ah bd ((fX3_save η σ β).1), wB E (bd 2) ((fX3_save η σ β).2 2), wB E (bd 3) ((fX3_save η σ β).2 3), wB E (bd 4) ((fX3_save η σ β).2 4), wB E (bd 5) ((fX3_save η σ β).2 5), wB E (bd 6) ((fX3_save η σ β).2 6), wB E (bd 7) ((fX3_save η σ β).2 7), wB E (bd 8) ((fX3_save η σ β).2 8), wB E (bd 9) ((fX3_save η σ β).2 9), wB E ad β] := by
  refine mc_of (by decide +kernel) (Nat.le_of_ble_eq_true rfl) (lv := [(0, .ref (ah 0)), (1, .ref (ad 0))]) rfl (fun X C hE => ?_)
  refine g_aload_n C dX3_save_0 rfl 0 rfl ?_
  refine g_getf C (T := TX3) (N := 5) 0 0 rfl rfl rfl inX3 2 (by decide) q1_138 rfl dX3_save_1 ?_
  refine g_bipush C (v := 6) dX3_save_4 (by decide) ?_
  refine g_icmp_ne C 32 dX3_save_6 (by decide) (fun c_1 => ?_) (fun c_1 => ?_)
  · skip
    refine g_aload_n C dX3_save_32 rfl 0 rfl ?_
    refine g_getf C (T := TX3) (N := 5) 0 0 rfl rfl rfl inX3 0 (by decide) q1_136 rfl dX3_save_33 ?_
    refine g_aload_n C dX3_save_36 rfl 0 rfl ?_
    refine g_getf C (T := TX3) (N := 5) 0 0 rfl rfl rfl inX3 1 (by decide) q1_137 rfl dX3_save_37 ?_
    refine g_aload_n C dX3_save_40 rfl 0 rfl ?_
    refine g_getf C (T := TX3) (N := 5) 0 0 rfl rfl rfl inX3 2 (by decide) q1_138 rfl dX3_save_41 ?_
    refine g_iadd C dX3_save_44 ?_
    refine g_bipush C (v := 6) dX3_save_45 (by decide) ?_
    refine g_irem C dX3_save_47 (by decide) ?_
    have hj_2 : (iremF ((η.1 0) + (η.1 1)) 6) = nI ((iremF ((η.1 0) + (η.1 1)) 6)).toNatClampNeg ∧ ((iremF ((η.1 0) + (η.1 1)) 6)).toNatClampNeg < 6 := sav_i hv.1 hv.2.1
    rcases (show (((iremF ((η.1 0) + (η.1 1)) 6)).toNatClampNeg) = 0 ∨ (((iremF ((η.1 0) + (η.1 1)) 6)).toNatClampNeg) = 1 ∨ (((iremF ((η.1 0) + (η.1 1)) 6)).toNatClampNeg) = 2 ∨ (((iremF ((η.1 0) + (η.1 1)) 6)).toNatClampNeg) = 3 ∨ (((iremF ((η.1 0) + (η.1 1)) 6)).toNatClampNeg) = 4 ∨ (((iremF ((η.1 0) + (η.1 1)) 6)).toNatClampNeg) = 5 by have := hj_2.2; omega) with he_3 | he_3 | he_3 | he_3 | he_3 | he_3
    · refine g_aaldn C 0 1 0 rfl rfl (hj_2.1.trans (congrArg nI he_3)) (by decide) (by decide) rfl dX3_save_48 ?_
      refine g_aload_n C dX3_save_49 rfl 1 rfl ?_
      refine g_callV C (cs1 := [wH E ah bd η, wB E (bd 2) β, wB E (bd 3) (σ 3), wB E (bd 4) (σ 4), wB E (bd 5) (σ 5), wB E (bd 6) (σ 6), wB E (bd 7) (σ 7), wB E (bd 8) (σ 8), wB E (bd 9) (σ 9), wB E ad β]) (st1 := []) [.ref (ad 0)] [1, 9] (kX0_copyFrom l E (bd 2) (σ 2) ad β) caX0_copyFrom q2_38 rfl ⟨Nat.le_of_ble_eq_true rfl, Nat.le_of_ble_eq_true rfl⟩ ⟨Nat.zero_le _, Nat.zero_le _⟩ 1 0 rfl rfl rfl rfl (by decide) rfl rfl rfl rfl (Nat.le_of_ble_eq_true rfl) dX3_save_50 rfl ?_
      refine g_aload_n C dX3_save_53 rfl 0 rfl ?_
      refine g_dup C dX3_save_54 rfl ?_
      refine g_getf C (T := TX3) (N := 5) 0 0 rfl rfl rfl inX3 2 (by decide) q1_138 rfl dX3_save_55 ?_
      refine g_iconst C (v := 1) dX3_save_58 (by decide) ?_
      refine g_iadd C dX3_save_59 ?_
      refine g_putf C (T := TX3) (N := 5) (ty := .int) (w1 := wH E ah bd (sI η 1 ((η.1 1) + 1))) (cs1 := [wH E ah bd (sI η 1 ((η.1 1) + 1)), wB E (bd 2) β, wB E (bd 3) (σ 3), wB E (bd 4) (σ 4), wB E (bd 5) (σ 5), wB E (bd 6) (σ 6), wB E (bd 7) (σ 7), wB E (bd 8) (σ 8), wB E (bd 9) (σ 9), wB E ad β]) 0 0 rfl rfl rfl inX3 tyX3_ok nmX3 2 (by decide) q1_138 rfl (by decide +kernel) rfl rfl (Nat.le_of_ble_eq_true rfl) rfl rfl dX3_save_60 ?_
      have e_4 : fX3_save η σ β = (sI η 1 ((η.1 1) + 1), upB σ (2 + (((iremF ((η.1 0) + (η.1 1)) 6)).toNatClampNeg)) β) := by rw [fX3_save]; rw [if_neg c_1]
      exact g_vret C hE rfl (by rw [e_4, he_3] <;> rfl) dX3_save_63
    · refine g_aaldn C 0 1 1 rfl rfl (hj_2.1.trans (congrArg nI he_3)) (by decide) (by decide) rfl dX3_save_48 ?_
      refine g_aload_n C dX3_save_49 rfl 1 rfl ?_
      refine g_callV C (cs1 := [wH E ah bd η, wB E (bd 2) (σ 2), wB E (bd 3) β, wB E (bd 4) (σ 4), wB E (bd 5) (σ 5), wB E (bd 6) (σ 6), wB E (bd 7) (σ 7), wB E (bd 8) (σ 8), wB E (bd 9) (σ 9), wB E ad β]) (st1 := []) [.ref (ad 0)] [2, 9] (kX0_copyFrom l E (bd 3) (σ 3) ad β) caX0_copyFrom q2_38 rfl ⟨Nat.le_of_ble_eq_true rfl, Nat.le_of_ble_eq_true rfl⟩ ⟨Nat.zero_le _, Nat.zero_le _⟩ 2 0 rfl rfl rfl rfl (by decide) rfl rfl rfl rfl (Nat.le_of_ble_eq_true rfl) dX3_save_50 rfl ?_
      refine g_aload_n C dX3_save_53 rfl 0 rfl ?_
      refine g_dup C dX3_save_54 rfl ?_
      refine g_getf C (T := TX3) (N := 5) 0 0 rfl rfl rfl inX3 2 (by decide) q1_138 rfl dX3_save_55 ?_
      refine g_iconst C (v := 1) dX3_save_58 (by decide) ?_
      refine g_iadd C dX3_save_59 ?_
      refine g_putf C (T := TX3) (N := 5) (ty := .int) (w1 := wH E ah bd (sI η 1 ((η.1 1) + 1))) (cs1 := [wH E ah bd (sI η 1 ((η.1 1) + 1)), wB E (bd 2) (σ 2), wB E (bd 3) β, wB E (bd 4) (σ 4), wB E (bd 5) (σ 5), wB E (bd 6) (σ 6), wB E (bd 7) (σ 7), wB E (bd 8) (σ 8), wB E (bd 9) (σ 9), wB E ad β]) 0 0 rfl rfl rfl inX3 tyX3_ok nmX3 2 (by decide) q1_138 rfl (by decide +kernel) rfl rfl (Nat.le_of_ble_eq_true rfl) rfl rfl dX3_save_60 ?_
      have e_5 : fX3_save η σ β = (sI η 1 ((η.1 1) + 1), upB σ (2 + (((iremF ((η.1 0) + (η.1 1)) 6)).toNatClampNeg)) β) := by rw [fX3_save]; rw [if_neg c_1]
      exact g_vret C hE rfl (by rw [e_5, he_3] <;> rfl) dX3_save_63
    · refine g_aaldn C 0 1 2 rfl rfl (hj_2.1.trans (congrArg nI he_3)) (by decide) (by decide) rfl dX3_save_48 ?_
      refine g_aload_n C dX3_save_49 rfl 1 rfl ?_
      refine g_callV C (cs1 := [wH E ah bd η, wB E (bd 2) (σ 2), wB E (bd 3) (σ 3), wB E (bd 4) β, wB E (bd 5) (σ 5), wB E (bd 6) (σ 6), wB E (bd 7) (σ 7), wB E (bd 8) (σ 8), wB E (bd 9) (σ 9), wB E ad β]) (st1 := []) [.ref (ad 0)] [3, 9] (kX0_copyFrom l E (bd 4) (σ 4) ad β) caX0_copyFrom q2_38 rfl ⟨Nat.le_of_ble_eq_true rfl, Nat.le_of_ble_eq_true rfl⟩ ⟨Nat.zero_le _, Nat.zero_le _⟩ 3 0 rfl rfl rfl rfl (by decide) rfl rfl rfl rfl (Nat.le_of_ble_eq_true rfl) dX3_save_50 rfl ?_
      refine g_aload_n C dX3_save_53 rfl 0 rfl ?_
      refine g_dup C dX3_save_54 rfl ?_
      refine g_getf C (T := TX3) (N := 5) 0 0 rfl rfl rfl inX3 2 (by decide) q1_138 rfl dX3_save_55 ?_
      refine g_iconst C (v := 1) dX3_save_58 (by decide) ?_
      refine g_iadd C dX3_save_59 ?_
      refine g_putf C (T := TX3) (N := 5) (ty := .int) (w1 := wH E ah bd (sI η 1 ((η.1 1) + 1))) (cs1 := [wH E ah bd (sI η 1 ((η.1 1) + 1)), wB E (bd 2) (σ 2), wB E (bd 3) (σ 3), wB E (bd 4) β, wB E (bd 5) (σ 5), wB E (bd 6) (σ 6), wB E (bd 7) (σ 7), wB E (bd 8) (σ 8), wB E (bd 9) (σ 9), wB E ad β]) 0 0 rfl rfl rfl inX3 tyX3_ok nmX3 2 (by decide) q1_138 rfl (by decide +kernel) rfl rfl (Nat.le_of_ble_eq_true rfl) rfl rfl dX3_save_60 ?_
      have e_6 : fX3_save η σ β = (sI η 1 ((η.1 1) + 1), upB σ (2 + (((iremF ((η.1 0) + (η.1 1)) 6)).toNatClampNeg)) β) := by rw [fX3_save]; rw [if_neg c_1]
      exact g_vret C hE rfl (by rw [e_6, he_3] <;> rfl) dX3_save_63
    · refine g_aaldn C 0 1 3 rfl rfl (hj_2.1.trans (congrArg nI he_3)) (by decide) (by decide) rfl dX3_save_48 ?_
      refine g_aload_n C dX3_save_49 rfl 1 rfl ?_
      refine g_callV C (cs1 := [wH E ah bd η, wB E (bd 2) (σ 2), wB E (bd 3) (σ 3), wB E (bd 4) (σ 4), wB E (bd 5) β, wB E (bd 6) (σ 6), wB E (bd 7) (σ 7), wB E (bd 8) (σ 8), wB E (bd 9) (σ 9), wB E ad β]) (st1 := []) [.ref (ad 0)] [4, 9] (kX0_copyFrom l E (bd 5) (σ 5) ad β) caX0_copyFrom q2_38 rfl ⟨Nat.le_of_ble_eq_true rfl, Nat.le_of_ble_eq_true rfl⟩ ⟨Nat.zero_le _, Nat.zero_le _⟩ 4 0 rfl rfl rfl rfl (by decide) rfl rfl rfl rfl (Nat.le_of_ble_eq_true rfl) dX3_save_50 rfl ?_
      refine g_aload_n C dX3_save_53 rfl 0 rfl ?_
      refine g_dup C dX3_save_54 rfl ?_
      refine g_getf C (T := TX3) (N := 5) 0 0 rfl rfl rfl inX3 2 (by decide) q1_138 rfl dX3_save_55 ?_
      refine g_iconst C (v := 1) dX3_save_58 (by decide) ?_
      refine g_iadd C dX3_save_59 ?_
      refine g_putf C (T := TX3) (N := 5) (ty := .int) (w1 := wH E ah bd (sI η 1 ((η.1 1) + 1))) (cs1 := [wH E ah bd (sI η 1 ((η.1 1) + 1)), wB E (bd 2) (σ 2), wB E (bd 3) (σ 3), wB E (bd 4) (σ 4), wB E (bd 5) β, wB E (bd 6) (σ 6), wB E (bd 7) (σ 7), wB E (bd 8) (σ 8), wB E (bd 9) (σ 9), wB E ad β]) 0 0 rfl rfl rfl inX3 tyX3_ok nmX3 2 (by decide) q1_138 rfl (by decide +kernel) rfl rfl (Nat.le_of_ble_eq_true rfl) rfl rfl dX3_save_60 ?_
      have e_7 : fX3_save η σ β = (sI η 1 ((η.1 1) + 1), upB σ (2 + (((iremF ((η.1 0) + (η.1 1)) 6)).toNatClampNeg)) β) := by rw [fX3_save]; rw [if_neg c_1]
      exact g_vret C hE rfl (by rw [e_7, he_3] <;> rfl) dX3_save_63
    · refine g_aaldn C 0 1 4 rfl rfl (hj_2.1.trans (congrArg nI he_3)) (by decide) (by decide) rfl dX3_save_48 ?_
      refine g_aload_n C dX3_save_49 rfl 1 rfl ?_
      refine g_callV C (cs1 := [wH E ah bd η, wB E (bd 2) (σ 2), wB E (bd 3) (σ 3), wB E (bd 4) (σ 4), wB E (bd 5) (σ 5), wB E (bd 6) β, wB E (bd 7) (σ 7), wB E (bd 8) (σ 8), wB E (bd 9) (σ 9), wB E ad β]) (st1 := []) [.ref (ad 0)] [5, 9] (kX0_copyFrom l E (bd 6) (σ 6) ad β) caX0_copyFrom q2_38 rfl ⟨Nat.le_of_ble_eq_true rfl, Nat.le_of_ble_eq_true rfl⟩ ⟨Nat.zero_le _, Nat.zero_le _⟩ 5 0 rfl rfl rfl rfl (by decide) rfl rfl rfl rfl (Nat.le_of_ble_eq_true rfl) dX3_save_50 rfl ?_
      refine g_aload_n C dX3_save_53 rfl 0 rfl ?_
      refine g_dup C dX3_save_54 rfl ?_
      refine g_getf C (T := TX3) (N := 5) 0 0 rfl rfl rfl inX3 2 (by decide) q1_138 rfl dX3_save_55 ?_
      refine g_iconst C (v := 1) dX3_save_58 (by decide) ?_
      refine g_iadd C dX3_save_59 ?_
      refine g_putf C (T := TX3) (N := 5) (ty := .int) (w1 := wH E ah bd (sI η 1 ((η.1 1) + 1))) (cs1 := [wH E ah bd (sI η 1 ((η.1 1) + 1)), wB E (bd 2) (σ 2), wB E (bd 3) (σ 3), wB E (bd 4) (σ 4), wB E (bd 5) (σ 5), wB E (bd 6) β, wB E (bd 7) (σ 7), wB E (bd 8) (σ 8), wB E (bd 9) (σ 9), wB E ad β]) 0 0 rfl rfl rfl inX3 tyX3_ok nmX3 2 (by decide) q1_138 rfl (by decide +kernel) rfl rfl (Nat.le_of_ble_eq_true rfl) rfl rfl dX3_save_60 ?_
      have e_8 : fX3_save η σ β = (sI η 1 ((η.1 1) + 1), upB σ (2 + (((iremF ((η.1 0) + (η.1 1)) 6)).toNatClampNeg)) β) := by rw [fX3_save]; rw [if_neg c_1]
      exact g_vret C hE rfl (by rw [e_8, he_3] <;> rfl) dX3_save_63
    · refine g_aaldn C 0 1 5 rfl rfl (hj_2.1.trans (congrArg nI he_3)) (by decide) (by decide) rfl dX3_save_48 ?_
      refine g_aload_n C dX3_save_49 rfl 1 rfl ?_
      refine g_callV C (cs1 := [wH E ah bd η, wB E (bd 2) (σ 2), wB E (bd 3) (σ 3), wB E (bd 4) (σ 4), wB E (bd 5) (σ 5), wB E (bd 6) (σ 6), wB E (bd 7) β, wB E (bd 8) (σ 8), wB E (bd 9) (σ 9), wB E ad β]) (st1 := []) [.ref (ad 0)] [6, 9] (kX0_copyFrom l E (bd 7) (σ 7) ad β) caX0_copyFrom q2_38 rfl ⟨Nat.le_of_ble_eq_true rfl, Nat.le_of_ble_eq_true rfl⟩ ⟨Nat.zero_le _, Nat.zero_le _⟩ 6 0 rfl rfl rfl rfl (by decide) rfl rfl rfl rfl (Nat.le_of_ble_eq_true rfl) dX3_save_50 rfl ?_
      refine g_aload_n C dX3_save_53 rfl 0 rfl ?_
      refine g_dup C dX3_save_54 rfl ?_
      refine g_getf C (T := TX3) (N := 5) 0 0 rfl rfl rfl inX3 2 (by decide) q1_138 rfl dX3_save_55 ?_
      refine g_iconst C (v := 1) dX3_save_58 (by decide) ?_
      refine g_iadd C dX3_save_59 ?_
      refine g_putf C (T := TX3) (N := 5) (ty := .int) (w1 := wH E ah bd (sI η 1 ((η.1 1) + 1))) (cs1 := [wH E ah bd (sI η 1 ((η.1 1) + 1)), wB E (bd 2) (σ 2), wB E (bd 3) (σ 3), wB E (bd 4) (σ 4), wB E (bd 5) (σ 5), wB E (bd 6) (σ 6), wB E (bd 7) β, wB E (bd 8) (σ 8), wB E (bd 9) (σ 9), wB E ad β]) 0 0 rfl rfl rfl inX3 tyX3_ok nmX3 2 (by decide) q1_138 rfl (by decide +kernel) rfl rfl (Nat.le_of_ble_eq_true rfl) rfl rfl dX3_save_60 ?_
      have e_9 : fX3_save η σ β = (sI η 1 ((η.1 1) + 1), upB σ (2 + (((iremF ((η.1 0) + (η.1 1)) 6)).toNatClampNeg)) β) := by rw [fX3_save]; rw [if_neg c_1]
      exact g_vret C hE rfl (by rw [e_9, he_3] <;> rfl) dX3_save_63
  · skip
    have hc6 := c_1
    refine g_aload_n C dX3_save_9 rfl 0 rfl ?_
    refine g_aload_n C dX3_save_10 rfl 0 rfl ?_
    refine g_getf C (T := TX3) (N := 5) 0 0 rfl rfl rfl inX3 1 (by decide) q1_137 rfl dX3_save_11 ?_
    refine g_iconst C (v := 1) dX3_save_14 (by decide) ?_
    refine g_iadd C dX3_save_15 ?_
    refine g_bipush C (v := 6) dX3_save_16 (by decide) ?_
    refine g_irem C dX3_save_18 (by decide) ?_
    refine g_putf C (T := TX3) (N := 5) (ty := .int) (w1 := wH E ah bd (sI η 0 (iremF ((η.1 0) + 1) 6))) (cs1 := [wH E ah bd (sI η 0 (iremF ((η.1 0) + 1) 6)), wB E (bd 2) (σ 2), wB E (bd 3) (σ 3), wB E (bd 4) (σ 4), wB E (bd 5) (σ 5), wB E (bd 6) (σ 6), wB E (bd 7) (σ 7), wB E (bd 8) (σ 8), wB E (bd 9) (σ 9), wB E ad β]) 0 0 rfl rfl rfl inX3 tyX3_ok nmX3 1 (by decide) q1_137 rfl (by decide +kernel) rfl rfl (Nat.le_of_ble_eq_true rfl) rfl rfl dX3_save_19 ?_
    refine g_aload_n C dX3_save_22 rfl 0 rfl ?_
    refine g_dup C dX3_save_23 rfl ?_
    refine g_getf C (T := TX3) (N := 5) 0 0 rfl rfl rfl inX3 2 (by decide) q1_138 rfl dX3_save_24 ?_
    refine g_iconst C (v := 1) dX3_save_27 (by decide) ?_
    refine g_isub C dX3_save_28 ?_
    refine g_putf C (T := TX3) (N := 5) (ty := .int) (w1 := wH E ah bd (sI (sI η 0 (iremF ((η.1 0) + 1) 6)) 1 (((sI η 0 (iremF ((η.1 0) + 1) 6)).1 1) - 1))) (cs1 := [wH E ah bd (sI (sI η 0 (iremF ((η.1 0) + 1) 6)) 1 (((sI η 0 (iremF ((η.1 0) + 1) 6)).1 1) - 1)), wB E (bd 2) (σ 2), wB E (bd 3) (σ 3), wB E (bd 4) (σ 4), wB E (bd 5) (σ 5), wB E (bd 6) (σ 6), wB E (bd 7) (σ 7), wB E (bd 8) (σ 8), wB E (bd 9) (σ 9), wB E ad β]) 0 0 rfl rfl rfl inX3 tyX3_ok nmX3 2 (by decide) q1_138 rfl (by decide +kernel) rfl rfl (Nat.le_of_ble_eq_true rfl) rfl rfl dX3_save_29 ?_
    refine g_aload_n C dX3_save_32 rfl 0 rfl ?_
    refine g_getf C (T := TX3) (N := 5) 0 0 rfl rfl rfl inX3 0 (by decide) q1_136 rfl dX3_save_33 ?_
    refine g_aload_n C dX3_save_36 rfl 0 rfl ?_
    refine g_getf C (T := TX3) (N := 5) 0 0 rfl rfl rfl inX3 1 (by decide) q1_137 rfl dX3_save_37 ?_
    refine g_aload_n C dX3_save_40 rfl 0 rfl ?_
    refine g_getf C (T := TX3) (N := 5) 0 0 rfl rfl rfl inX3 2 (by decide) q1_138 rfl dX3_save_41 ?_
    refine g_iadd C dX3_save_44 ?_
    refine g_bipush C (v := 6) dX3_save_45 (by decide) ?_
    refine g_irem C dX3_save_47 (by decide) ?_
    have hj_10 : (iremF (((sI (sI η 0 (iremF ((η.1 0) + 1) 6)) 1 (((sI η 0 (iremF ((η.1 0) + 1) 6)).1 1) - 1)).1 0) + ((sI (sI η 0 (iremF ((η.1 0) + 1) 6)) 1 (((sI η 0 (iremF ((η.1 0) + 1) 6)).1 1) - 1)).1 1)) 6) = nI ((iremF (((sI (sI η 0 (iremF ((η.1 0) + 1) 6)) 1 (((sI η 0 (iremF ((η.1 0) + 1) 6)).1 1) - 1)).1 0) + ((sI (sI η 0 (iremF ((η.1 0) + 1) 6)) 1 (((sI η 0 (iremF ((η.1 0) + 1) 6)).1 1) - 1)).1 1)) 6)).toNatClampNeg ∧ ((iremF (((sI (sI η 0 (iremF ((η.1 0) + 1) 6)) 1 (((sI η 0 (iremF ((η.1 0) + 1) 6)).1 1) - 1)).1 0) + ((sI (sI η 0 (iremF ((η.1 0) + 1) 6)) 1 (((sI η 0 (iremF ((η.1 0) + 1) 6)).1 1) - 1)).1 1)) 6)).toNatClampNeg < 6 := sav_i (irem6 hv.1 ⟨1, by decide, rfl⟩) ⟨5, by decide, by show η.1 1 - 1 = nI 5; rw [hc6]; rfl⟩
    rcases (show (((iremF (((sI (sI η 0 (iremF ((η.1 0) + 1) 6)) 1 (((sI η 0 (iremF ((η.1 0) + 1) 6)).1 1) - 1)).1 0) + ((sI (sI η 0 (iremF ((η.1 0) + 1) 6)) 1 (((sI η 0 (iremF ((η.1 0) + 1) 6)).1 1) - 1)).1 1)) 6)).toNatClampNeg) = 0 ∨ (((iremF (((sI (sI η 0 (iremF ((η.1 0) + 1) 6)) 1 (((sI η 0 (iremF ((η.1 0) + 1) 6)).1 1) - 1)).1 0) + ((sI (sI η 0 (iremF ((η.1 0) + 1) 6)) 1 (((sI η 0 (iremF ((η.1 0) + 1) 6)).1 1) - 1)).1 1)) 6)).toNatClampNeg) = 1 ∨ (((iremF (((sI (sI η 0 (iremF ((η.1 0) + 1) 6)) 1 (((sI η 0 (iremF ((η.1 0) + 1) 6)).1 1) - 1)).1 0) + ((sI (sI η 0 (iremF ((η.1 0) + 1) 6)) 1 (((sI η 0 (iremF ((η.1 0) + 1) 6)).1 1) - 1)).1 1)) 6)).toNatClampNeg) = 2 ∨ (((iremF (((sI (sI η 0 (iremF ((η.1 0) + 1) 6)) 1 (((sI η 0 (iremF ((η.1 0) + 1) 6)).1 1) - 1)).1 0) + ((sI (sI η 0 (iremF ((η.1 0) + 1) 6)) 1 (((sI η 0 (iremF ((η.1 0) + 1) 6)).1 1) - 1)).1 1)) 6)).toNatClampNeg) = 3 ∨ (((iremF (((sI (sI η 0 (iremF ((η.1 0) + 1) 6)) 1 (((sI η 0 (iremF ((η.1 0) + 1) 6)).1 1) - 1)).1 0) + ((sI (sI η 0 (iremF ((η.1 0) + 1) 6)) 1 (((sI η 0 (iremF ((η.1 0) + 1) 6)).1 1) - 1)).1 1)) 6)).toNatClampNeg) = 4 ∨ (((iremF (((sI (sI η 0 (iremF ((η.1 0) + 1) 6)) 1 (((sI η 0 (iremF ((η.1 0) + 1) 6)).1 1) - 1)).1 0) + ((sI (sI η 0 (iremF ((η.1 0) + 1) 6)) 1 (((sI η 0 (iremF ((η.1 0) + 1) 6)).1 1) - 1)).1 1)) 6)).toNatClampNeg) = 5 by have := hj_10.2; omega) with he_11 | he_11 | he_11 | he_11 | he_11 | he_11
    · refine g_aaldn C 0 1 0 rfl rfl (hj_10.1.trans (congrArg nI he_11)) (by decide) (by decide) rfl dX3_save_48 ?_
      refine g_aload_n C dX3_save_49 rfl 1 rfl ?_
      refine g_callV C (cs1 := [wH E ah bd (sI (sI η 0 (iremF ((η.1 0) + 1) 6)) 1 (((sI η 0 (iremF ((η.1 0) + 1) 6)).1 1) - 1)), wB E (bd 2) β, wB E (bd 3) (σ 3), wB E (bd 4) (σ 4), wB E (bd 5) (σ 5), wB E (bd 6) (σ 6), wB E (bd 7) (σ 7), wB E (bd 8) (σ 8), wB E (bd 9) (σ 9), wB E ad β]) (st1 := []) [.ref (ad 0)] [1, 9] (kX0_copyFrom l E (bd 2) (σ 2) ad β) caX0_copyFrom q2_38 rfl ⟨Nat.le_of_ble_eq_true rfl, Nat.le_of_ble_eq_true rfl⟩ ⟨Nat.zero_le _, Nat.zero_le _⟩ 1 0 rfl rfl rfl rfl (by decide) rfl rfl rfl rfl (Nat.le_of_ble_eq_true rfl) dX3_save_50 rfl ?_
      refine g_aload_n C dX3_save_53 rfl 0 rfl ?_
      refine g_dup C dX3_save_54 rfl ?_
      refine g_getf C (T := TX3) (N := 5) 0 0 rfl rfl rfl inX3 2 (by decide) q1_138 rfl dX3_save_55 ?_
      refine g_iconst C (v := 1) dX3_save_58 (by decide) ?_
      refine g_iadd C dX3_save_59 ?_
      refine g_putf C (T := TX3) (N := 5) (ty := .int) (w1 := wH E ah bd (sI (sI (sI η 0 (iremF ((η.1 0) + 1) 6)) 1 (((sI η 0 (iremF ((η.1 0) + 1) 6)).1 1) - 1)) 1 (((sI (sI η 0 (iremF ((η.1 0) + 1) 6)) 1 (((sI η 0 (iremF ((η.1 0) + 1) 6)).1 1) - 1)).1 1) + 1))) (cs1 := [wH E ah bd (sI (sI (sI η 0 (iremF ((η.1 0) + 1) 6)) 1 (((sI η 0 (iremF ((η.1 0) + 1) 6)).1 1) - 1)) 1 (((sI (sI η 0 (iremF ((η.1 0) + 1) 6)) 1 (((sI η 0 (iremF ((η.1 0) + 1) 6)).1 1) - 1)).1 1) + 1)), wB E (bd 2) β, wB E (bd 3) (σ 3), wB E (bd 4) (σ 4), wB E (bd 5) (σ 5), wB E (bd 6) (σ 6), wB E (bd 7) (σ 7), wB E (bd 8) (σ 8), wB E (bd 9) (σ 9), wB E ad β]) 0 0 rfl rfl rfl inX3 tyX3_ok nmX3 2 (by decide) q1_138 rfl (by decide +kernel) rfl rfl (Nat.le_of_ble_eq_true rfl) rfl rfl dX3_save_60 ?_
      have e_12 : fX3_save η σ β = (sI (sI (sI η 0 (iremF ((η.1 0) + 1) 6)) 1 (((sI η 0 (iremF ((η.1 0) + 1) 6)).1 1) - 1)) 1 (((sI (sI η 0 (iremF ((η.1 0) + 1) 6)) 1 (((sI η 0 (iremF ((η.1 0) + 1) 6)).1 1) - 1)).1 1) + 1), upB σ (2 + (((iremF (((sI (sI η 0 (iremF ((η.1 0) + 1) 6)) 1 (((sI η 0 (iremF ((η.1 0) + 1) 6)).1 1) - 1)).1 0) + ((sI (sI η 0 (iremF ((η.1 0) + 1) 6)) 1 (((sI η 0 (iremF ((η.1 0) + 1) 6)).1 1) - 1)).1 1)) 6)).toNatClampNeg)) β) := by rw [fX3_save]; rw [if_pos c_1]
      exact g_vret C hE rfl (by rw [e_12, he_11] <;> rfl) dX3_save_63
    · refine g_aaldn C 0 1 1 rfl rfl (hj_10.1.trans (congrArg nI he_11)) (by decide) (by decide) rfl dX3_save_48 ?_
      refine g_aload_n C dX3_save_49 rfl 1 rfl ?_
      refine g_callV C (cs1 := [wH E ah bd (sI (sI η 0 (iremF ((η.1 0) + 1) 6)) 1 (((sI η 0 (iremF ((η.1 0) + 1) 6)).1 1) - 1)), wB E (bd 2) (σ 2), wB E (bd 3) β, wB E (bd 4) (σ 4), wB E (bd 5) (σ 5), wB E (bd 6) (σ 6), wB E (bd 7) (σ 7), wB E (bd 8) (σ 8), wB E (bd 9) (σ 9), wB E ad β]) (st1 := []) [.ref (ad 0)] [2, 9] (kX0_copyFrom l E (bd 3) (σ 3) ad β) caX0_copyFrom q2_38 rfl ⟨Nat.le_of_ble_eq_true rfl, Nat.le_of_ble_eq_true rfl⟩ ⟨Nat.zero_le _, Nat.zero_le _⟩ 2 0 rfl rfl rfl rfl (by decide) rfl rfl rfl rfl (Nat.le_of_ble_eq_true rfl) dX3_save_50 rfl ?_
      refine g_aload_n C dX3_save_53 rfl 0 rfl ?_
      refine g_dup C dX3_save_54 rfl ?_
      refine g_getf C (T := TX3) (N := 5) 0 0 rfl rfl rfl inX3 2 (by decide) q1_138 rfl dX3_save_55 ?_
      refine g_iconst C (v := 1) dX3_save_58 (by decide) ?_
      refine g_iadd C dX3_save_59 ?_
      refine g_putf C (T := TX3) (N := 5) (ty := .int) (w1 := wH E ah bd (sI (sI (sI η 0 (iremF ((η.1 0) + 1) 6)) 1 (((sI η 0 (iremF ((η.1 0) + 1) 6)).1 1) - 1)) 1 (((sI (sI η 0 (iremF ((η.1 0) + 1) 6)) 1 (((sI η 0 (iremF ((η.1 0) + 1) 6)).1 1) - 1)).1 1) + 1))) (cs1 := [wH E ah bd (sI (sI (sI η 0 (iremF ((η.1 0) + 1) 6)) 1 (((sI η 0 (iremF ((η.1 0) + 1) 6)).1 1) - 1)) 1 (((sI (sI η 0 (iremF ((η.1 0) + 1) 6)) 1 (((sI η 0 (iremF ((η.1 0) + 1) 6)).1 1) - 1)).1 1) + 1)), wB E (bd 2) (σ 2), wB E (bd 3) β, wB E (bd 4) (σ 4), wB E (bd 5) (σ 5), wB E (bd 6) (σ 6), wB E (bd 7) (σ 7), wB E (bd 8) (σ 8), wB E (bd 9) (σ 9), wB E ad β]) 0 0 rfl rfl rfl inX3 tyX3_ok nmX3 2 (by decide) q1_138 rfl (by decide +kernel) rfl rfl (Nat.le_of_ble_eq_true rfl) rfl rfl dX3_save_60 ?_
      have e_13 : fX3_save η σ β = (sI (sI (sI η 0 (iremF ((η.1 0) + 1) 6)) 1 (((sI η 0 (iremF ((η.1 0) + 1) 6)).1 1) - 1)) 1 (((sI (sI η 0 (iremF ((η.1 0) + 1) 6)) 1 (((sI η 0 (iremF ((η.1 0) + 1) 6)).1 1) - 1)).1 1) + 1), upB σ (2 + (((iremF (((sI (sI η 0 (iremF ((η.1 0) + 1) 6)) 1 (((sI η 0 (iremF ((η.1 0) + 1) 6)).1 1) - 1)).1 0) + ((sI (sI η 0 (iremF ((η.1 0) + 1) 6)) 1 (((sI η 0 (iremF ((η.1 0) + 1) 6)).1 1) - 1)).1 1)) 6)).toNatClampNeg)) β) := by rw [fX3_save]; rw [if_pos c_1]
      exact g_vret C hE rfl (by rw [e_13, he_11] <;> rfl) dX3_save_63
    · refine g_aaldn C 0 1 2 rfl rfl (hj_10.1.trans (congrArg nI he_11)) (by decide) (by decide) rfl dX3_save_48 ?_
      refine g_aload_n C dX3_save_49 rfl 1 rfl ?_
      refine g_callV C (cs1 := [wH E ah bd (sI (sI η 0 (iremF ((η.1 0) + 1) 6)) 1 (((sI η 0 (iremF ((η.1 0) + 1) 6)).1 1) - 1)), wB E (bd 2) (σ 2), wB E (bd 3) (σ 3), wB E (bd 4) β, wB E (bd 5) (σ 5), wB E (bd 6) (σ 6), wB E (bd 7) (σ 7), wB E (bd 8) (σ 8), wB E (bd 9) (σ 9), wB E ad β]) (st1 := []) [.ref (ad 0)] [3, 9] (kX0_copyFrom l E (bd 4) (σ 4) ad β) caX0_copyFrom q2_38 rfl ⟨Nat.le_of_ble_eq_true rfl, Nat.le_of_ble_eq_true rfl⟩ ⟨Nat.zero_le _, Nat.zero_le _⟩ 3 0 rfl rfl rfl rfl (by decide) rfl rfl rfl rfl (Nat.le_of_ble_eq_true rfl) dX3_save_50 rfl ?_
      refine g_aload_n C dX3_save_53 rfl 0 rfl ?_
      refine g_dup C dX3_save_54 rfl ?_
      refine g_getf C (T := TX3) (N := 5) 0 0 rfl rfl rfl inX3 2 (by decide) q1_138 rfl dX3_save_55 ?_
      refine g_iconst C (v := 1) dX3_save_58 (by decide) ?_
      refine g_iadd C dX3_save_59 ?_
      refine g_putf C (T := TX3) (N := 5) (ty := .int) (w1 := wH E ah bd (sI (sI (sI η 0 (iremF ((η.1 0) + 1) 6)) 1 (((sI η 0 (iremF ((η.1 0) + 1) 6)).1 1) - 1)) 1 (((sI (sI η 0 (iremF ((η.1 0) + 1) 6)) 1 (((sI η 0 (iremF ((η.1 0) + 1) 6)).1 1) - 1)).1 1) + 1))) (cs1 := [wH E ah bd (sI (sI (sI η 0 (iremF ((η.1 0) + 1) 6)) 1 (((sI η 0 (iremF ((η.1 0) + 1) 6)).1 1) - 1)) 1 (((sI (sI η 0 (iremF ((η.1 0) + 1) 6)) 1 (((sI η 0 (iremF ((η.1 0) + 1) 6)).1 1) - 1)).1 1) + 1)), wB E (bd 2) (σ 2), wB E (bd 3) (σ 3), wB E (bd 4) β, wB E (bd 5) (σ 5), wB E (bd 6) (σ 6), wB E (bd 7) (σ 7), wB E (bd 8) (σ 8), wB E (bd 9) (σ 9), wB E ad β]) 0 0 rfl rfl rfl inX3 tyX3_ok nmX3 2 (by decide) q1_138 rfl (by decide +kernel) rfl rfl (Nat.le_of_ble_eq_true rfl) rfl rfl dX3_save_60 ?_
      have e_14 : fX3_save η σ β = (sI (sI (sI η 0 (iremF ((η.1 0) + 1) 6)) 1 (((sI η 0 (iremF ((η.1 0) + 1) 6)).1 1) - 1)) 1 (((sI (sI η 0 (iremF ((η.1 0) + 1) 6)) 1 (((sI η 0 (iremF ((η.1 0) + 1) 6)).1 1) - 1)).1 1) + 1), upB σ (2 + (((iremF (((sI (sI η 0 (iremF ((η.1 0) + 1) 6)) 1 (((sI η 0 (iremF ((η.1 0) + 1) 6)).1 1) - 1)).1 0) + ((sI (sI η 0 (iremF ((η.1 0) + 1) 6)) 1 (((sI η 0 (iremF ((η.1 0) + 1) 6)).1 1) - 1)).1 1)) 6)).toNatClampNeg)) β) := by rw [fX3_save]; rw [if_pos c_1]
      exact g_vret C hE rfl (by rw [e_14, he_11] <;> rfl) dX3_save_63
    · refine g_aaldn C 0 1 3 rfl rfl (hj_10.1.trans (congrArg nI he_11)) (by decide) (by decide) rfl dX3_save_48 ?_
      refine g_aload_n C dX3_save_49 rfl 1 rfl ?_
      refine g_callV C (cs1 := [wH E ah bd (sI (sI η 0 (iremF ((η.1 0) + 1) 6)) 1 (((sI η 0 (iremF ((η.1 0) + 1) 6)).1 1) - 1)), wB E (bd 2) (σ 2), wB E (bd 3) (σ 3), wB E (bd 4) (σ 4), wB E (bd 5) β, wB E (bd 6) (σ 6), wB E (bd 7) (σ 7), wB E (bd 8) (σ 8), wB E (bd 9) (σ 9), wB E ad β]) (st1 := []) [.ref (ad 0)] [4, 9] (kX0_copyFrom l E (bd 5) (σ 5) ad β) caX0_copyFrom q2_38 rfl ⟨Nat.le_of_ble_eq_true rfl, Nat.le_of_ble_eq_true rfl⟩ ⟨Nat.zero_le _, Nat.zero_le _⟩ 4 0 rfl rfl rfl rfl (by decide) rfl rfl rfl rfl (Nat.le_of_ble_eq_true rfl) dX3_save_50 rfl ?_
      refine g_aload_n C dX3_save_53 rfl 0 rfl ?_
      refine g_dup C dX3_save_54 rfl ?_
      refine g_getf C (T := TX3) (N := 5) 0 0 rfl rfl rfl inX3 2 (by decide) q1_138 rfl dX3_save_55 ?_
      refine g_iconst C (v := 1) dX3_save_58 (by decide) ?_
      refine g_iadd C dX3_save_59 ?_
      refine g_putf C (T := TX3) (N := 5) (ty := .int) (w1 := wH E ah bd (sI (sI (sI η 0 (iremF ((η.1 0) + 1) 6)) 1 (((sI η 0 (iremF ((η.1 0) + 1) 6)).1 1) - 1)) 1 (((sI (sI η 0 (iremF ((η.1 0) + 1) 6)) 1 (((sI η 0 (iremF ((η.1 0) + 1) 6)).1 1) - 1)).1 1) + 1))) (cs1 := [wH E ah bd (sI (sI (sI η 0 (iremF ((η.1 0) + 1) 6)) 1 (((sI η 0 (iremF ((η.1 0) + 1) 6)).1 1) - 1)) 1 (((sI (sI η 0 (iremF ((η.1 0) + 1) 6)) 1 (((sI η 0 (iremF ((η.1 0) + 1) 6)).1 1) - 1)).1 1) + 1)), wB E (bd 2) (σ 2), wB E (bd 3) (σ 3), wB E (bd 4) (σ 4), wB E (bd 5) β, wB E (bd 6) (σ 6), wB E (bd 7) (σ 7), wB E (bd 8) (σ 8), wB E (bd 9) (σ 9), wB E ad β]) 0 0 rfl rfl rfl inX3 tyX3_ok nmX3 2 (by decide) q1_138 rfl (by decide +kernel) rfl rfl (Nat.le_of_ble_eq_true rfl) rfl rfl dX3_save_60 ?_
      have e_15 : fX3_save η σ β = (sI (sI (sI η 0 (iremF ((η.1 0) + 1) 6)) 1 (((sI η 0 (iremF ((η.1 0) + 1) 6)).1 1) - 1)) 1 (((sI (sI η 0 (iremF ((η.1 0) + 1) 6)) 1 (((sI η 0 (iremF ((η.1 0) + 1) 6)).1 1) - 1)).1 1) + 1), upB σ (2 + (((iremF (((sI (sI η 0 (iremF ((η.1 0) + 1) 6)) 1 (((sI η 0 (iremF ((η.1 0) + 1) 6)).1 1) - 1)).1 0) + ((sI (sI η 0 (iremF ((η.1 0) + 1) 6)) 1 (((sI η 0 (iremF ((η.1 0) + 1) 6)).1 1) - 1)).1 1)) 6)).toNatClampNeg)) β) := by rw [fX3_save]; rw [if_pos c_1]
      exact g_vret C hE rfl (by rw [e_15, he_11] <;> rfl) dX3_save_63
    · refine g_aaldn C 0 1 4 rfl rfl (hj_10.1.trans (congrArg nI he_11)) (by decide) (by decide) rfl dX3_save_48 ?_
      refine g_aload_n C dX3_save_49 rfl 1 rfl ?_
      refine g_callV C (cs1 := [wH E ah bd (sI (sI η 0 (iremF ((η.1 0) + 1) 6)) 1 (((sI η 0 (iremF ((η.1 0) + 1) 6)).1 1) - 1)), wB E (bd 2) (σ 2), wB E (bd 3) (σ 3), wB E (bd 4) (σ 4), wB E (bd 5) (σ 5), wB E (bd 6) β, wB E (bd 7) (σ 7), wB E (bd 8) (σ 8), wB E (bd 9) (σ 9), wB E ad β]) (st1 := []) [.ref (ad 0)] [5, 9] (kX0_copyFrom l E (bd 6) (σ 6) ad β) caX0_copyFrom q2_38 rfl ⟨Nat.le_of_ble_eq_true rfl, Nat.le_of_ble_eq_true rfl⟩ ⟨Nat.zero_le _, Nat.zero_le _⟩ 5 0 rfl rfl rfl rfl (by decide) rfl rfl rfl rfl (Nat.le_of_ble_eq_true rfl) dX3_save_50 rfl ?_
      refine g_aload_n C dX3_save_53 rfl 0 rfl ?_
      refine g_dup C dX3_save_54 rfl ?_
      refine g_getf C (T := TX3) (N := 5) 0 0 rfl rfl rfl inX3 2 (by decide) q1_138 rfl dX3_save_55 ?_
      refine g_iconst C (v := 1) dX3_save_58 (by decide) ?_
      refine g_iadd C dX3_save_59 ?_
      refine g_putf C (T := TX3) (N := 5) (ty := .int) (w1 := wH E ah bd (sI (sI (sI η 0 (iremF ((η.1 0) + 1) 6)) 1 (((sI η 0 (iremF ((η.1 0) + 1) 6)).1 1) - 1)) 1 (((sI (sI η 0 (iremF ((η.1 0) + 1) 6)) 1 (((sI η 0 (iremF ((η.1 0) + 1) 6)).1 1) - 1)).1 1) + 1))) (cs1 := [wH E ah bd (sI (sI (sI η 0 (iremF ((η.1 0) + 1) 6)) 1 (((sI η 0 (iremF ((η.1 0) + 1) 6)).1 1) - 1)) 1 (((sI (sI η 0 (iremF ((η.1 0) + 1) 6)) 1 (((sI η 0 (iremF ((η.1 0) + 1) 6)).1 1) - 1)).1 1) + 1)), wB E (bd 2) (σ 2), wB E (bd 3) (σ 3), wB E (bd 4) (σ 4), wB E (bd 5) (σ 5), wB E (bd 6) β, wB E (bd 7) (σ 7), wB E (bd 8) (σ 8), wB E (bd 9) (σ 9), wB E ad β]) 0 0 rfl rfl rfl inX3 tyX3_ok nmX3 2 (by decide) q1_138 rfl (by decide +kernel) rfl rfl (Nat.le_of_ble_eq_true rfl) rfl rfl dX3_save_60 ?_
      have e_16 : fX3_save η σ β = (sI (sI (sI η 0 (iremF ((η.1 0) + 1) 6)) 1 (((sI η 0 (iremF ((η.1 0) + 1) 6)).1 1) - 1)) 1 (((sI (sI η 0 (iremF ((η.1 0) + 1) 6)) 1 (((sI η 0 (iremF ((η.1 0) + 1) 6)).1 1) - 1)).1 1) + 1), upB σ (2 + (((iremF (((sI (sI η 0 (iremF ((η.1 0) + 1) 6)) 1 (((sI η 0 (iremF ((η.1 0) + 1) 6)).1 1) - 1)).1 0) + ((sI (sI η 0 (iremF ((η.1 0) + 1) 6)) 1 (((sI η 0 (iremF ((η.1 0) + 1) 6)).1 1) - 1)).1 1)) 6)).toNatClampNeg)) β) := by rw [fX3_save]; rw [if_pos c_1]
      exact g_vret C hE rfl (by rw [e_16, he_11] <;> rfl) dX3_save_63
    · refine g_aaldn C 0 1 5 rfl rfl (hj_10.1.trans (congrArg nI he_11)) (by decide) (by decide) rfl dX3_save_48 ?_
      refine g_aload_n C dX3_save_49 rfl 1 rfl ?_
      refine g_callV C (cs1 := [wH E ah bd (sI (sI η 0 (iremF ((η.1 0) + 1) 6)) 1 (((sI η 0 (iremF ((η.1 0) + 1) 6)).1 1) - 1)), wB E (bd 2) (σ 2), wB E (bd 3) (σ 3), wB E (bd 4) (σ 4), wB E (bd 5) (σ 5), wB E (bd 6) (σ 6), wB E (bd 7) β, wB E (bd 8) (σ 8), wB E (bd 9) (σ 9), wB E ad β]) (st1 := []) [.ref (ad 0)] [6, 9] (kX0_copyFrom l E (bd 7) (σ 7) ad β) caX0_copyFrom q2_38 rfl ⟨Nat.le_of_ble_eq_true rfl, Nat.le_of_ble_eq_true rfl⟩ ⟨Nat.zero_le _, Nat.zero_le _⟩ 6 0 rfl rfl rfl rfl (by decide) rfl rfl rfl rfl (Nat.le_of_ble_eq_true rfl) dX3_save_50 rfl ?_
      refine g_aload_n C dX3_save_53 rfl 0 rfl ?_
      refine g_dup C dX3_save_54 rfl ?_
      refine g_getf C (T := TX3) (N := 5) 0 0 rfl rfl rfl inX3 2 (by decide) q1_138 rfl dX3_save_55 ?_
      refine g_iconst C (v := 1) dX3_save_58 (by decide) ?_
      refine g_iadd C dX3_save_59 ?_
      refine g_putf C (T := TX3) (N := 5) (ty := .int) (w1 := wH E ah bd (sI (sI (sI η 0 (iremF ((η.1 0) + 1) 6)) 1 (((sI η 0 (iremF ((η.1 0) + 1) 6)).1 1) - 1)) 1 (((sI (sI η 0 (iremF ((η.1 0) + 1) 6)) 1 (((sI η 0 (iremF ((η.1 0) + 1) 6)).1 1) - 1)).1 1) + 1))) (cs1 := [wH E ah bd (sI (sI (sI η 0 (iremF ((η.1 0) + 1) 6)) 1 (((sI η 0 (iremF ((η.1 0) + 1) 6)).1 1) - 1)) 1 (((sI (sI η 0 (iremF ((η.1 0) + 1) 6)) 1 (((sI η 0 (iremF ((η.1 0) + 1) 6)).1 1) - 1)).1 1) + 1)), wB E (bd 2) (σ 2), wB E (bd 3) (σ 3), wB E (bd 4) (σ 4), wB E (bd 5) (σ 5), wB E (bd 6) (σ 6), wB E (bd 7) β, wB E (bd 8) (σ 8), wB E (bd 9) (σ 9), wB E ad β]) 0 0 rfl rfl rfl inX3 tyX3_ok nmX3 2 (by decide) q1_138 rfl (by decide +kernel) rfl rfl (Nat.le_of_ble_eq_true rfl) rfl rfl dX3_save_60 ?_
      have e_17 : fX3_save η σ β = (sI (sI (sI η 0 (iremF ((η.1 0) + 1) 6)) 1 (((sI η 0 (iremF ((η.1 0) + 1) 6)).1 1) - 1)) 1 (((sI (sI η 0 (iremF ((η.1 0) + 1) 6)) 1 (((sI η 0 (iremF ((η.1 0) + 1) 6)).1 1) - 1)).1 1) + 1), upB σ (2 + (((iremF (((sI (sI η 0 (iremF ((η.1 0) + 1) 6)) 1 (((sI η 0 (iremF ((η.1 0) + 1) 6)).1 1) - 1)).1 0) + ((sI (sI η 0 (iremF ((η.1 0) + 1) 6)) 1 (((sI η 0 (iremF ((η.1 0) + 1) 6)).1 1) - 1)).1 1)) 6)).toNatClampNeg)) β) := by rw [fX3_save]; rw [if_pos c_1]
      exact g_vret C hE rfl (by rw [e_17, he_11] <;> rfl) dX3_save_63
theorem cnt_pred {y : Int32} (hy : ∃ c : Nat, c ≤ 6 ∧ y = nI c) (h : 0 < y) : ∃ c : Nat, c ≤ 6 ∧ y - 1 = nI c := by
  obtain ⟨c, hc, rfl⟩ := hy
  rcases Nat.eq_zero_or_pos c with rfl | h0
  · exact absurd h (by decide)
  · obtain ⟨d, rfl⟩ : ∃ d, c = d + 1 := ⟨c - 1, by omega⟩
    exact ⟨d, by omega, nI_pred d⟩
def fX3_restoreSaved (η : BS) (σ : Nat → BS) (β : BS) : BS × BS :=
  (sI η 1 ((η.1 1) - 1), (σ (2 + (((iremF (((sI η 1 ((η.1 1) - 1)).1 0) + ((sI η 1 ((η.1 1) - 1)).1 1)) 6)).toNatClampNeg))))
theorem caX3_restoreSaved : gCalV yX3_restoreSaved cX3_restoreSaved 2 none 1 := ⟨⟨q2_37, q1_4, by decide +kernel⟩, q2_35, q2_36⟩
set_option maxHeartbeats 4000000 in
set_option maxRecDepth 100000 in
theorem kX3_restoreSaved (l : Launch) (E : gE) (ah : Nat → Nat) (bd : Nat → Nat → Nat) (η : BS) (σ : Nat → BS) (ad : Nat → Nat) (β : BS) (hv : vH η)   (h0 : 0 < η.1 1) : MC l E yX3_restoreSaved cX3_restoreSaved 2 none 3 66 [.ref (ah 0), .ref (ad 0)] [wH E ah bd η, wB E (bd 2) (σ 2), wB E (bd 3) (σ 3), wB E (bd 4) (σ 4), wB E (bd 5) (σ 5), wB E (bd 6) (σ 6), wB E (bd 7) (σ 7), wB E (bd 8) (σ 8), wB E (bd 9) (σ 9), wB E ad β] none [wH E ah bd ((fX3_restoreSaved η σ β).1), wB E (bd 2) (σ 2), wB E (bd 3) (σ 3), wB E (bd 4) (σ 4), wB E (bd 5) (σ 5), wB E (bd 6) (σ 6), wB E (bd 7) (σ 7), wB E (bd 8) (σ 8), wB E (bd 9) (σ 9), wB E ad ((fX3_restoreSaved η σ β).2)] := by
  refine mc_of (by decide +kernel) (Nat.le_of_ble_eq_true rfl) (lv := [(0, .ref (ah 0)), (1, .ref (ad 0))]) rfl (fun X C hE => ?_)
  refine g_aload_n C dX3_restoreSaved_0 rfl 0 rfl ?_
  refine g_dup C dX3_restoreSaved_1 rfl ?_
  refine g_getf C (T := TX3) (N := 5) 0 0 rfl rfl rfl inX3 2 (by decide) q1_138 rfl dX3_restoreSaved_2 ?_
  refine g_iconst C (v := 1) dX3_restoreSaved_5 (by decide) ?_
  refine g_isub C dX3_restoreSaved_6 ?_
  refine g_putf C (T := TX3) (N := 5) (ty := .int) (w1 := wH E ah bd (sI η 1 ((η.1 1) - 1))) (cs1 := [wH E ah bd (sI η 1 ((η.1 1) - 1)), wB E (bd 2) (σ 2), wB E (bd 3) (σ 3), wB E (bd 4) (σ 4), wB E (bd 5) (σ 5), wB E (bd 6) (σ 6), wB E (bd 7) (σ 7), wB E (bd 8) (σ 8), wB E (bd 9) (σ 9), wB E ad β]) 0 0 rfl rfl rfl inX3 tyX3_ok nmX3 2 (by decide) q1_138 rfl (by decide +kernel) rfl rfl (Nat.le_of_ble_eq_true rfl) rfl rfl dX3_restoreSaved_7 ?_
  refine g_aload_n C dX3_restoreSaved_10 rfl 1 rfl ?_
  refine g_aload_n C dX3_restoreSaved_11 rfl 0 rfl ?_
  refine g_getf C (T := TX3) (N := 5) 0 0 rfl rfl rfl inX3 0 (by decide) q1_136 rfl dX3_restoreSaved_12 ?_
  refine g_aload_n C dX3_restoreSaved_15 rfl 0 rfl ?_
  refine g_getf C (T := TX3) (N := 5) 0 0 rfl rfl rfl inX3 1 (by decide) q1_137 rfl dX3_restoreSaved_16 ?_
  refine g_aload_n C dX3_restoreSaved_19 rfl 0 rfl ?_
  refine g_getf C (T := TX3) (N := 5) 0 0 rfl rfl rfl inX3 2 (by decide) q1_138 rfl dX3_restoreSaved_20 ?_
  refine g_iadd C dX3_restoreSaved_23 ?_
  refine g_bipush C (v := 6) dX3_restoreSaved_24 (by decide) ?_
  refine g_irem C dX3_restoreSaved_26 (by decide) ?_
  have hj_1 : (iremF (((sI η 1 ((η.1 1) - 1)).1 0) + ((sI η 1 ((η.1 1) - 1)).1 1)) 6) = nI ((iremF (((sI η 1 ((η.1 1) - 1)).1 0) + ((sI η 1 ((η.1 1) - 1)).1 1)) 6)).toNatClampNeg ∧ ((iremF (((sI η 1 ((η.1 1) - 1)).1 0) + ((sI η 1 ((η.1 1) - 1)).1 1)) 6)).toNatClampNeg < 6 := sav_i hv.1 (cnt_pred hv.2.1 h0)
  rcases (show (((iremF (((sI η 1 ((η.1 1) - 1)).1 0) + ((sI η 1 ((η.1 1) - 1)).1 1)) 6)).toNatClampNeg) = 0 ∨ (((iremF (((sI η 1 ((η.1 1) - 1)).1 0) + ((sI η 1 ((η.1 1) - 1)).1 1)) 6)).toNatClampNeg) = 1 ∨ (((iremF (((sI η 1 ((η.1 1) - 1)).1 0) + ((sI η 1 ((η.1 1) - 1)).1 1)) 6)).toNatClampNeg) = 2 ∨ (((iremF (((sI η 1 ((η.1 1) - 1)).1 0) + ((sI η 1 ((η.1 1) - 1)).1 1)) 6)).toNatClampNeg) = 3 ∨ (((iremF (((sI η 1 ((η.1 1) - 1)).1 0) + ((sI η 1 ((η.1 1) - 1)).1 1)) 6)).toNatClampNeg) = 4 ∨ (((iremF (((sI η 1 ((η.1 1) - 1)).1 0) + ((sI η 1 ((η.1 1) - 1)).1 1)) 6)).toNatClampNeg) = 5 by have := hj_1.2; omega) with he_2 | he_2 | he_2 | he_2 | he_2 | he_2
  · refine g_aaldn C 0 1 0 rfl rfl (hj_1.1.trans (congrArg nI he_2)) (by decide) (by decide) rfl dX3_restoreSaved_27 ?_
    refine g_callV C (cs1 := [wH E ah bd (sI η 1 ((η.1 1) - 1)), wB E (bd 2) (σ 2), wB E (bd 3) (σ 3), wB E (bd 4) (σ 4), wB E (bd 5) (σ 5), wB E (bd 6) (σ 6), wB E (bd 7) (σ 7), wB E (bd 8) (σ 8), wB E (bd 9) (σ 9), wB E ad (σ 2)]) (st1 := []) [.ref ((bd 2) 0)] [9, 1] (kX0_copyFrom l E ad β (bd 2) (σ 2)) caX0_copyFrom q2_38 rfl ⟨Nat.le_of_ble_eq_true rfl, Nat.le_of_ble_eq_true rfl⟩ ⟨Nat.zero_le _, Nat.zero_le _⟩ 9 0 rfl rfl rfl rfl (by decide) rfl rfl rfl rfl (Nat.le_of_ble_eq_true rfl) dX3_restoreSaved_28 rfl ?_
    have e_3 : fX3_restoreSaved η σ β = (sI η 1 ((η.1 1) - 1), (σ (2 + (((iremF (((sI η 1 ((η.1 1) - 1)).1 0) + ((sI η 1 ((η.1 1) - 1)).1 1)) 6)).toNatClampNeg)))) := by rw [fX3_restoreSaved]
    exact g_vret C hE rfl (by rw [e_3, he_2] <;> rfl) dX3_restoreSaved_31
  · refine g_aaldn C 0 1 1 rfl rfl (hj_1.1.trans (congrArg nI he_2)) (by decide) (by decide) rfl dX3_restoreSaved_27 ?_
    refine g_callV C (cs1 := [wH E ah bd (sI η 1 ((η.1 1) - 1)), wB E (bd 2) (σ 2), wB E (bd 3) (σ 3), wB E (bd 4) (σ 4), wB E (bd 5) (σ 5), wB E (bd 6) (σ 6), wB E (bd 7) (σ 7), wB E (bd 8) (σ 8), wB E (bd 9) (σ 9), wB E ad (σ 3)]) (st1 := []) [.ref ((bd 3) 0)] [9, 2] (kX0_copyFrom l E ad β (bd 3) (σ 3)) caX0_copyFrom q2_38 rfl ⟨Nat.le_of_ble_eq_true rfl, Nat.le_of_ble_eq_true rfl⟩ ⟨Nat.zero_le _, Nat.zero_le _⟩ 9 0 rfl rfl rfl rfl (by decide) rfl rfl rfl rfl (Nat.le_of_ble_eq_true rfl) dX3_restoreSaved_28 rfl ?_
    have e_4 : fX3_restoreSaved η σ β = (sI η 1 ((η.1 1) - 1), (σ (2 + (((iremF (((sI η 1 ((η.1 1) - 1)).1 0) + ((sI η 1 ((η.1 1) - 1)).1 1)) 6)).toNatClampNeg)))) := by rw [fX3_restoreSaved]
    exact g_vret C hE rfl (by rw [e_4, he_2] <;> rfl) dX3_restoreSaved_31
  · refine g_aaldn C 0 1 2 rfl rfl (hj_1.1.trans (congrArg nI he_2)) (by decide) (by decide) rfl dX3_restoreSaved_27 ?_
    refine g_callV C (cs1 := [wH E ah bd (sI η 1 ((η.1 1) - 1)), wB E (bd 2) (σ 2), wB E (bd 3) (σ 3), wB E (bd 4) (σ 4), wB E (bd 5) (σ 5), wB E (bd 6) (σ 6), wB E (bd 7) (σ 7), wB E (bd 8) (σ 8), wB E (bd 9) (σ 9), wB E ad (σ 4)]) (st1 := []) [.ref ((bd 4) 0)] [9, 3] (kX0_copyFrom l E ad β (bd 4) (σ 4)) caX0_copyFrom q2_38 rfl ⟨Nat.le_of_ble_eq_true rfl, Nat.le_of_ble_eq_true rfl⟩ ⟨Nat.zero_le _, Nat.zero_le _⟩ 9 0 rfl rfl rfl rfl (by decide) rfl rfl rfl rfl (Nat.le_of_ble_eq_true rfl) dX3_restoreSaved_28 rfl ?_
    have e_5 : fX3_restoreSaved η σ β = (sI η 1 ((η.1 1) - 1), (σ (2 + (((iremF (((sI η 1 ((η.1 1) - 1)).1 0) + ((sI η 1 ((η.1 1) - 1)).1 1)) 6)).toNatClampNeg)))) := by rw [fX3_restoreSaved]
    exact g_vret C hE rfl (by rw [e_5, he_2] <;> rfl) dX3_restoreSaved_31
  · refine g_aaldn C 0 1 3 rfl rfl (hj_1.1.trans (congrArg nI he_2)) (by decide) (by decide) rfl dX3_restoreSaved_27 ?_
    refine g_callV C (cs1 := [wH E ah bd (sI η 1 ((η.1 1) - 1)), wB E (bd 2) (σ 2), wB E (bd 3) (σ 3), wB E (bd 4) (σ 4), wB E (bd 5) (σ 5), wB E (bd 6) (σ 6), wB E (bd 7) (σ 7), wB E (bd 8) (σ 8), wB E (bd 9) (σ 9), wB E ad (σ 5)]) (st1 := []) [.ref ((bd 5) 0)] [9, 4] (kX0_copyFrom l E ad β (bd 5) (σ 5)) caX0_copyFrom q2_38 rfl ⟨Nat.le_of_ble_eq_true rfl, Nat.le_of_ble_eq_true rfl⟩ ⟨Nat.zero_le _, Nat.zero_le _⟩ 9 0 rfl rfl rfl rfl (by decide) rfl rfl rfl rfl (Nat.le_of_ble_eq_true rfl) dX3_restoreSaved_28 rfl ?_
    have e_6 : fX3_restoreSaved η σ β = (sI η 1 ((η.1 1) - 1), (σ (2 + (((iremF (((sI η 1 ((η.1 1) - 1)).1 0) + ((sI η 1 ((η.1 1) - 1)).1 1)) 6)).toNatClampNeg)))) := by rw [fX3_restoreSaved]
    exact g_vret C hE rfl (by rw [e_6, he_2] <;> rfl) dX3_restoreSaved_31
  · refine g_aaldn C 0 1 4 rfl rfl (hj_1.1.trans (congrArg nI he_2)) (by decide) (by decide) rfl dX3_restoreSaved_27 ?_
    refine g_callV C (cs1 := [wH E ah bd (sI η 1 ((η.1 1) - 1)), wB E (bd 2) (σ 2), wB E (bd 3) (σ 3), wB E (bd 4) (σ 4), wB E (bd 5) (σ 5), wB E (bd 6) (σ 6), wB E (bd 7) (σ 7), wB E (bd 8) (σ 8), wB E (bd 9) (σ 9), wB E ad (σ 6)]) (st1 := []) [.ref ((bd 6) 0)] [9, 5] (kX0_copyFrom l E ad β (bd 6) (σ 6)) caX0_copyFrom q2_38 rfl ⟨Nat.le_of_ble_eq_true rfl, Nat.le_of_ble_eq_true rfl⟩ ⟨Nat.zero_le _, Nat.zero_le _⟩ 9 0 rfl rfl rfl rfl (by decide) rfl rfl rfl rfl (Nat.le_of_ble_eq_true rfl) dX3_restoreSaved_28 rfl ?_
    have e_7 : fX3_restoreSaved η σ β = (sI η 1 ((η.1 1) - 1), (σ (2 + (((iremF (((sI η 1 ((η.1 1) - 1)).1 0) + ((sI η 1 ((η.1 1) - 1)).1 1)) 6)).toNatClampNeg)))) := by rw [fX3_restoreSaved]
    exact g_vret C hE rfl (by rw [e_7, he_2] <;> rfl) dX3_restoreSaved_31
  · refine g_aaldn C 0 1 5 rfl rfl (hj_1.1.trans (congrArg nI he_2)) (by decide) (by decide) rfl dX3_restoreSaved_27 ?_
    refine g_callV C (cs1 := [wH E ah bd (sI η 1 ((η.1 1) - 1)), wB E (bd 2) (σ 2), wB E (bd 3) (σ 3), wB E (bd 4) (σ 4), wB E (bd 5) (σ 5), wB E (bd 6) (σ 6), wB E (bd 7) (σ 7), wB E (bd 8) (σ 8), wB E (bd 9) (σ 9), wB E ad (σ 7)]) (st1 := []) [.ref ((bd 7) 0)] [9, 6] (kX0_copyFrom l E ad β (bd 7) (σ 7)) caX0_copyFrom q2_38 rfl ⟨Nat.le_of_ble_eq_true rfl, Nat.le_of_ble_eq_true rfl⟩ ⟨Nat.zero_le _, Nat.zero_le _⟩ 9 0 rfl rfl rfl rfl (by decide) rfl rfl rfl rfl (Nat.le_of_ble_eq_true rfl) dX3_restoreSaved_28 rfl ?_
    have e_8 : fX3_restoreSaved η σ β = (sI η 1 ((η.1 1) - 1), (σ (2 + (((iremF (((sI η 1 ((η.1 1) - 1)).1 0) + ((sI η 1 ((η.1 1) - 1)).1 1)) 6)).toNatClampNeg)))) := by rw [fX3_restoreSaved]
    exact g_vret C hE rfl (by rw [e_8, he_2] <;> rfl) dX3_restoreSaved_31
def fX3_keepIn (η : BS) (σ : Nat → BS) (β : BS) (i : Nat) : BS × (Nat → BS) :=
  (sE η 0 i (vp_nar .boolean 1), upB σ (8 + i) β)
def fX3_restoreKept (η : BS) (σ : Nat → BS) (β : BS) (i : Nat) : BS :=
  (σ (8 + i))
