theorem start_left : (fT_pointsLeft iB 1) = 0 := by decide +kernel
theorem start_mean : dcmpFl (fT_meanDays iB) 0 = 0 := by
  have e : fT_meanDays iB = 0 := by decide +kernel
  rw [e]
  exact hDZ 0 (by show (0 : UInt64) &&& 0x7fffffffffffffff ≤ 0x7ff0000000000000; decide)
theorem start_INV : INV 0 iB := by
  refine ⟨iM, AL_init, vM_init, by decide +kernel, ⟨0, Nat.le_refl _, rfl⟩, fun o ho => ?_, fun t ht => absurd ht (by show ¬ t < (0 : Int32).toNatClampNeg; exact Nat.not_lt_zero t)⟩
  rcases (show o = 0 ∨ o = 1 ∨ o = 2 ∨ o = 3 ∨ o = 4 by omega) with rfl | rfl | rfl | rfl | rfl <;> decide +kernel
theorem start_vH : vH iZ := ⟨⟨0, by decide, rfl⟩, ⟨0, by decide, rfl⟩, fun i _ => by show (0 : Int32) = b2i (i2b 0); decide⟩
set_option maxRecDepth 100000 in
set_option maxHeartbeats 4000000 in
theorem law_body {X : gX} {l : Launch} {E : gE} (C : gC X cL_law 12 RL (some .boolean) l E room_1) {b0 L9 : Nat} {xs : Nat → Int32} (S : gS X b0 L9 xs) (hO : va_AO RX0 X.2.2.2.2.1) (hend : ∀ (k n : Nat) (cs : List va_W) (lv : List (Nat × Value)), k ≤ 600172 → n ≤ 7300668 → G X k n cs lv 286 [.int 1]) : G X 0 0 [] [(0, .ref b0)] 0 [] := by
  have hI := start_INV
  have hv : vB iB := INV.v hI
  have hvh := start_vH
  have hnn := hNN
  refine g_new C (C0 := RX6) (T := TX6) (N := 5) (cix := 4) (fs := [.null, .null, .null, .null, .null]) inX6 tyX6 tyX6_ok q1_16 q1_17 q1_1 rfl dfX6 (Nat.le_of_ble_eq_true rfl) (Nat.le_of_ble_eq_true rfl) dL_law_0 (fun ax => ?_)
  refine g_dup C dL_law_3 rfl ?_
  refine g_initI C hO 0 rfl (kX6_init l E ax) q1_20 q1_1 (by decide +kernel) q1_19 rfl q1_18 ⟨Nat.le_of_ble_eq_true rfl, Nat.le_of_ble_eq_true rfl⟩ ⟨Nat.le_of_ble_eq_true rfl, Nat.le_of_ble_eq_true rfl⟩ (Nat.le_of_ble_eq_true rfl) dL_law_4 (fun cs1 h1 => ?_)
  obtain ⟨bo, tr, ac, ah, bd, at_, rfl⟩ := h1
  refine g_astore_n C (lv1 := [(1, .ref ax), (0, .ref b0)]) dL_law_7 rfl (by decide) rfl ?_
  refine g_perm (cs1 := [wX ax (bo 0) (tr 0) (ac 0) (ah 0) (at_ 0), wB E bo iB, wB E tr iB, wC E ac iZ, wH E ah bd iZ, wT E at_ iZ, wB E (bd 2) ((fun _ => iB) 2), wB E (bd 3) ((fun _ => iB) 3), wB E (bd 4) ((fun _ => iB) 4), wB E (bd 5) ((fun _ => iB) 5), wB E (bd 6) ((fun _ => iB) 6), wB E (bd 7) ((fun _ => iB) 7), wB E (bd 8) ((fun _ => iB) 8), wB E (bd 9) ((fun _ => iB) 9)]) (List.Perm.of_eq ?_) ?_
  · show _ = _
    simp only [List.nil_append, List.cons_append, List.set_cons_zero, List.set_cons_succ, List.flatten_cons, List.flatten_nil, List.append_assoc, List.append_nil]
  have hk : 0 + 1 + 154 ≤ room_1.cells := Nat.le_of_ble_eq_true rfl
  have hn : 0 + 5 + 2536 ≤ room_1.slots := Nat.le_of_ble_eq_true rfl
  refine g_aload_n C dL_law_8 rfl 0 rfl ?_
  refine g_callV C (cs1 := [wX ax (bo 0) (tr 0) (ac 0) (ah 0) (at_ 0), wB E bo iB, wB E tr iB, wC E ac iZ, wH E ah bd iZ, wT E at_ iZ, wB E (bd 2) ((fun _ => iB) 2), wB E (bd 3) ((fun _ => iB) 3), wB E (bd 4) ((fun _ => iB) 4), wB E (bd 5) ((fun _ => iB) 5), wB E (bd 6) ((fun _ => iB) 6), wB E (bd 7) ((fun _ => iB) 7), wB E (bd 8) ((fun _ => iB) 8), wB E (bd 9) ((fun _ => iB) 9)]) (st1 := [.int (fT_savedStates iZ)]) [] [0, 1, 2, 3, 4, 5, 6, 7, 8, 9, 10, 11, 12, 13] (kT_savedStates l E ax bo iB tr iB ac iZ ah bd iZ (fun _ => iB) at_ iZ) caX6_savedStates q2_51 rfl ⟨Nat.le_of_ble_eq_true rfl, Nat.le_of_ble_eq_true rfl⟩ ⟨hk, hn⟩ 0 0 rfl rfl rfl rfl (by decide) rfl rfl rfl rfl (Nat.le_of_ble_eq_true rfl) dL_law_9 rfl ?_
  refine g_if_ne C 68 dL_law_12 (by decide) (fun c_1 => absurd (show (fT_savedStates iZ) = 0 from rfl) c_1) (fun c_1 => ?_)
  refine g_aload_n C dL_law_15 rfl 0 rfl ?_
  refine g_callV C (cs1 := [wX ax (bo 0) (tr 0) (ac 0) (ah 0) (at_ 0), wB E bo iB, wB E tr iB, wC E ac iZ, wH E ah bd iZ, wT E at_ iZ, wB E (bd 2) ((fun _ => iB) 2), wB E (bd 3) ((fun _ => iB) 3), wB E (bd 4) ((fun _ => iB) 4), wB E (bd 5) ((fun _ => iB) 5), wB E (bd 6) ((fun _ => iB) 6), wB E (bd 7) ((fun _ => iB) 7), wB E (bd 8) ((fun _ => iB) 8), wB E (bd 9) ((fun _ => iB) 9)]) (st1 := [.int (fT_tickets iB)]) [] [0, 1, 2, 3, 4, 5, 6, 7, 8, 9, 10, 11, 12, 13] (kT_tickets l E ax bo iB tr iB ac iZ ah bd iZ (fun _ => iB) at_ iZ) caX6_tickets q2_55 rfl ⟨Nat.le_of_ble_eq_true rfl, Nat.le_of_ble_eq_true rfl⟩ ⟨hk, hn⟩ 0 0 rfl rfl rfl rfl (by decide) rfl rfl rfl rfl (Nat.le_of_ble_eq_true rfl) dL_law_16 rfl ?_
  refine g_if_ne C 68 dL_law_19 (by decide) (fun c_2 => absurd (show (fT_tickets iB) = 0 from rfl) c_2) (fun c_2 => ?_)
  refine g_aload_n C dL_law_22 rfl 0 rfl ?_
  refine g_callV C (cs1 := [wX ax (bo 0) (tr 0) (ac 0) (ah 0) (at_ 0), wB E bo iB, wB E tr iB, wC E ac iZ, wH E ah bd iZ, wT E at_ iZ, wB E (bd 2) ((fun _ => iB) 2), wB E (bd 3) ((fun _ => iB) 3), wB E (bd 4) ((fun _ => iB) 4), wB E (bd 5) ((fun _ => iB) 5), wB E (bd 6) ((fun _ => iB) 6), wB E (bd 7) ((fun _ => iB) 7), wB E (bd 8) ((fun _ => iB) 8), wB E (bd 9) ((fun _ => iB) 9)]) (st1 := [.int (fT_day iB)]) [] [0, 1, 2, 3, 4, 5, 6, 7, 8, 9, 10, 11, 12, 13] (kT_day l E ax bo iB tr iB ac iZ ah bd iZ (fun _ => iB) at_ iZ) caX6_day q2_138 rfl ⟨Nat.le_of_ble_eq_true rfl, Nat.le_of_ble_eq_true rfl⟩ ⟨hk, hn⟩ 0 0 rfl rfl rfl rfl (by decide) rfl rfl rfl rfl (Nat.le_of_ble_eq_true rfl) dL_law_23 rfl ?_
  refine g_if_ne C 68 dL_law_26 (by decide) (fun c_3 => absurd (show (fT_day iB) = 0 from rfl) c_3) (fun c_3 => ?_)
  refine g_aload_n C dL_law_29 rfl 0 rfl ?_
  refine g_iconst C (v := 4) dL_law_30 (by decide) ?_
  refine g_callV C (cs1 := [wX ax (bo 0) (tr 0) (ac 0) (ah 0) (at_ 0), wB E bo iB, wB E tr iB, wC E ac iZ, wH E ah bd iZ, wT E at_ iZ, wB E (bd 2) ((fun _ => iB) 2), wB E (bd 3) ((fun _ => iB) 3), wB E (bd 4) ((fun _ => iB) 4), wB E (bd 5) ((fun _ => iB) 5), wB E (bd 6) ((fun _ => iB) 6), wB E (bd 7) ((fun _ => iB) 7), wB E (bd 8) ((fun _ => iB) 8), wB E (bd 9) ((fun _ => iB) 9)]) (st1 := [.int (fT_capacityOf iB 4)]) [.int 4] [0, 1, 2, 3, 4, 5, 6, 7, 8, 9, 10, 11, 12, 13] (kT_capacityOf l E ax bo iB tr iB ac iZ ah bd iZ (fun _ => iB) at_ iZ hv 4 (by decide) (own_n (by decide))) caX6_capacityOf q2_59 rfl ⟨Nat.le_of_ble_eq_true rfl, Nat.le_of_ble_eq_true rfl⟩ ⟨hk, hn⟩ 0 0 rfl rfl rfl rfl (by decide) rfl rfl rfl rfl (Nat.le_of_ble_eq_true rfl) dL_law_31 rfl ?_
  refine g_bipush C (v := 20) dL_law_34 (by decide) ?_
  refine g_icmp_ne C 68 dL_law_36 (by decide) (fun c_4 => absurd (show (fT_capacityOf iB 4) = 20 by decide +kernel) c_4) (fun c_4 => ?_)
  refine g_aload_n C dL_law_39 rfl 0 rfl ?_
  refine g_iconst C (v := 2) dL_law_40 (by decide) ?_
  refine g_callV C (cs1 := [wX ax (bo 0) (tr 0) (ac 0) (ah 0) (at_ 0), wB E bo iB, wB E tr iB, wC E ac iZ, wH E ah bd iZ, wT E at_ iZ, wB E (bd 2) ((fun _ => iB) 2), wB E (bd 3) ((fun _ => iB) 3), wB E (bd 4) ((fun _ => iB) 4), wB E (bd 5) ((fun _ => iB) 5), wB E (bd 6) ((fun _ => iB) 6), wB E (bd 7) ((fun _ => iB) 7), wB E (bd 8) ((fun _ => iB) 8), wB E (bd 9) ((fun _ => iB) 9)]) (st1 := [.int (fT_dateOf iB 2)]) [.int 2] [0, 1, 2, 3, 4, 5, 6, 7, 8, 9, 10, 11, 12, 13] (kT_dateOf l E ax bo iB tr iB ac iZ ah bd iZ (fun _ => iB) at_ iZ hv 2 (by decide) (mil_n (by decide))) caX6_dateOf q2_88 rfl ⟨Nat.le_of_ble_eq_true rfl, Nat.le_of_ble_eq_true rfl⟩ ⟨hk, hn⟩ 0 0 rfl rfl rfl rfl (by decide) rfl rfl rfl rfl (Nat.le_of_ble_eq_true rfl) dL_law_41 rfl ?_
  refine g_bipush C (v := 30) dL_law_44 (by decide) ?_
  refine g_icmp_ne C 68 dL_law_46 (by decide) (fun c_5 => absurd (show (fT_dateOf iB 2) = 30 by decide +kernel) c_5) (fun c_5 => ?_)
  refine g_aload_n C dL_law_49 rfl 0 rfl ?_
  refine g_iconst C (v := 1) dL_law_50 (by decide) ?_
  refine g_callV C (cs1 := [wX ax (bo 0) (tr 0) (ac 0) (ah 0) (at_ 0), wB E bo iB, wB E tr iB, wC E ac iZ, wH E ah bd iZ, wT E at_ iZ, wB E (bd 2) ((fun _ => iB) 2), wB E (bd 3) ((fun _ => iB) 3), wB E (bd 4) ((fun _ => iB) 4), wB E (bd 5) ((fun _ => iB) 5), wB E (bd 6) ((fun _ => iB) 6), wB E (bd 7) ((fun _ => iB) 7), wB E (bd 8) ((fun _ => iB) 8), wB E (bd 9) ((fun _ => iB) 9)]) (st1 := [.int (fT_hundredthsDone iB 1)]) [.int 1] [0, 1, 2, 3, 4, 5, 6, 7, 8, 9, 10, 11, 12, 13] (kT_hundredthsDone l E ax bo iB tr iB ac iZ ah bd iZ (fun _ => iB) at_ iZ hv 1 (by decide) (mil_n (by decide))) caX6_hundredthsDone q2_95 rfl ⟨Nat.le_of_ble_eq_true rfl, Nat.le_of_ble_eq_true rfl⟩ ⟨hk, hn⟩ 0 0 rfl rfl rfl rfl (by decide) rfl rfl rfl rfl (Nat.le_of_ble_eq_true rfl) dL_law_51 rfl ?_
  refine g_bipush C (v := 100) dL_law_54 (by decide) ?_
  refine g_icmp_ne C 68 dL_law_56 (by decide) (fun c_6 => absurd (left_hun hI (by decide) start_left) c_6) (fun c_6 => ?_)
  refine g_aload_n C dL_law_59 rfl 0 rfl ?_
  refine g_callV C (cs1 := [wX ax (bo 0) (tr 0) (ac 0) (ah 0) (at_ 0), wB E bo iB, wB E tr iB, wC E ac iZ, wH E ah bd iZ, wT E at_ iZ, wB E (bd 2) ((fun _ => iB) 2), wB E (bd 3) ((fun _ => iB) 3), wB E (bd 4) ((fun _ => iB) 4), wB E (bd 5) ((fun _ => iB) 5), wB E (bd 6) ((fun _ => iB) 6), wB E (bd 7) ((fun _ => iB) 7), wB E (bd 8) ((fun _ => iB) 8), wB E (bd 9) ((fun _ => iB) 9)]) (st1 := [.double (fT_meanDays iB)]) [] [0, 1, 2, 3, 4, 5, 6, 7, 8, 9, 10, 11, 12, 13] (kT_meanDays l E ax bo iB tr iB ac iZ ah bd iZ (fun _ => iB) at_ iZ hv hnn) caX6_meanDays q2_142 rfl ⟨Nat.le_of_ble_eq_true rfl, Nat.le_of_ble_eq_true rfl⟩ ⟨hk, hn⟩ 0 0 rfl rfl rfl rfl (by decide) rfl rfl rfl rfl (Nat.le_of_ble_eq_true rfl) dL_law_60 rfl ?_
  refine g_dconst0 C dL_law_63 ?_
  refine g_dcmp C dL_law_64 ?_
  refine g_st (st1 := [.int (dcmpFl (fT_meanDays iB) 0)]) rfl ?_
  refine g_if_eq C 70 dL_law_65 (by decide) (fun c_7 => ?_) (fun c_7 => absurd start_mean c_7)
  refine g_iconst C (v := 0) dL_law_70 (by decide) ?_
  refine g_istore_n C (lv1 := [(2, .int 0), (1, .ref ax), (0, .ref b0)]) dL_law_71 rfl (by decide) rfl ?_
  refine g_sub (lv1 := [(0, .ref b0), (1, .ref ax), (2, .int (nI 0))]) [2, 1, 0] rfl ?_
  exact law_loop C S hk hn (fun cs lv => hend _ _ cs lv (Nat.le_of_ble_eq_true rfl) (Nat.le_of_ble_eq_true rfl)) 36 0 (by omega) iB iZ iZ (fun _ => iB) hI hvh
