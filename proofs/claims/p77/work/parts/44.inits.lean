theorem dfX0 : ∀ j, j < 17 → defaultValue (tyX0 j) = vp_V [.int 0, .int 0, .int 0, .int 0, .null, .null, .null, .null, .null, .null, .null, .null, .null, .null, .null, .null, .null] j := by decide +kernel
theorem dfX1 : ∀ j, j < 4 → defaultValue (tyX1 j) = vp_V [.null, .null, .null, .null] j := by decide +kernel
theorem dfX3 : ∀ j, j < 5 → defaultValue (tyX3 j) = vp_V [.null, .int 0, .int 0, .null, .null] j := by decide +kernel
theorem dfX4 : ∀ j, j < 7 → defaultValue (tyX4 j) = vp_V [.null, .int 0, .int 0, .null, .null, .null, .int 0] j := by decide +kernel
theorem dfX6 : ∀ j, j < 5 → defaultValue (tyX6 j) = vp_V [.null, .null, .null, .null, .null] j := by decide +kernel
/-- a new board -/
def iB : BS := (fun _ => 0, fun k => if k = 10 then upd (upd (upd (upd (upd (fun _ => 0) 0 20) 1 20) 2 20) 3 20) 4 20 else if k = 11 then fun _ => 0 else if k = 12 then upd (upd (upd (upd (fun _ => 0) 0 10) 1 20) 2 30) 3 40 else fun _ => 0)
/-- a new object's other parts: all zero -/
def iZ : BS := (fun _ => 0, fun _ _ => 0)
set_option maxHeartbeats 8000000 in
set_option maxRecDepth 100000 in
theorem kX0_init (l : Launch) (E : gE) (q : Nat) : MN l E yX0_init cX0_init 2 13 214 1 24 [.ref q] [[(q, .inr (0, [.int 0, .int 0, .int 0, .int 0, .null, .null, .null, .null, .null, .null, .null, .null, .null, .null, .null, .null, .null]))]] (fun cs' => ∃ ad : Nat → Nat, ad 0 = q ∧ cs' = [wB E ad iB]) := by
  refine mn_of (by decide +kernel) rfl (Nat.le_of_ble_eq_true rfl) (lv := [(0, .ref q)]) rfl (fun X C I hE => ?_)
  refine g_aload_n C dX0_init_0 rfl 0 rfl ?_
  refine g_objinit C q1_29 q1_22 q1_23 (Nat.le_of_ble_eq_true rfl) (Nat.le_of_ble_eq_true rfl) dX0_init_1 ?_
  refine g_aload_n C dX0_init_4 rfl 0 rfl ?_
  refine g_bipush C (v := 20) dX0_init_5 (by decide) ?_
  refine g_newa C (atype := .int) (ty := .int) (a0 := (20, .inl (fun _ => 0))) q1_107 rfl 0 rfl (fun _ _ h => h) (fun _ => rfl) (by decide) (by decide) (Nat.le_of_ble_eq_true rfl) (Nat.le_of_ble_eq_true rfl) (Nat.le_of_ble_eq_true rfl) dX0_init_7 (fun a1 => ?_)
  refine g_putfF C I (T := TX0) (N := 17) (ty := (.array .int)) (w1 := [(q, .inr (0, [.int 0, .int 0, .int 0, .int 0, .ref a1, .null, .null, .null, .null, .null, .null, .null, .null, .null, .null, .null, .null]))]) (cs1 := [[(q, .inr (0, [.int 0, .int 0, .int 0, .int 0, .ref a1, .null, .null, .null, .null, .null, .null, .null, .null, .null, .null, .null, .null]))], [(a1, .inl (E.2 0, 20, .inl (fun _ => 0)))]]) 0 0 rfl rfl rfl inX0 tyX0_ok nmX0 4 (by decide) q1_41 rfl rfl (by decide +kernel) rfl rfl (Nat.le_of_ble_eq_true rfl) rfl rfl dX0_init_9 ?_
  refine g_aload_n C dX0_init_12 rfl 0 rfl ?_
  refine g_bipush C (v := 20) dX0_init_13 (by decide) ?_
  refine g_newa C (atype := .int) (ty := .int) (a0 := (20, .inl (fun _ => 0))) q1_107 rfl 0 rfl (fun _ _ h => h) (fun _ => rfl) (by decide) (by decide) (Nat.le_of_ble_eq_true rfl) (Nat.le_of_ble_eq_true rfl) (Nat.le_of_ble_eq_true rfl) dX0_init_15 (fun a2 => ?_)
  refine g_putfF C I (T := TX0) (N := 17) (ty := (.array .int)) (w1 := [(q, .inr (0, [.int 0, .int 0, .int 0, .int 0, .ref a1, .ref a2, .null, .null, .null, .null, .null, .null, .null, .null, .null, .null, .null]))]) (cs1 := [[(q, .inr (0, [.int 0, .int 0, .int 0, .int 0, .ref a1, .ref a2, .null, .null, .null, .null, .null, .null, .null, .null, .null, .null, .null]))], [(a1, .inl (E.2 0, 20, .inl (fun _ => 0)))], [(a2, .inl (E.2 0, 20, .inl (fun _ => 0)))]]) 0 0 rfl rfl rfl inX0 tyX0_ok nmX0 5 (by decide) q1_44 rfl rfl (by decide +kernel) rfl rfl (Nat.le_of_ble_eq_true rfl) rfl rfl dX0_init_17 ?_
  refine g_aload_n C dX0_init_20 rfl 0 rfl ?_
  refine g_bipush C (v := 20) dX0_init_21 (by decide) ?_
  refine g_newa C (atype := .int) (ty := .int) (a0 := (20, .inl (fun _ => 0))) q1_107 rfl 0 rfl (fun _ _ h => h) (fun _ => rfl) (by decide) (by decide) (Nat.le_of_ble_eq_true rfl) (Nat.le_of_ble_eq_true rfl) (Nat.le_of_ble_eq_true rfl) dX0_init_23 (fun a3 => ?_)
  refine g_putfF C I (T := TX0) (N := 17) (ty := (.array .int)) (w1 := [(q, .inr (0, [.int 0, .int 0, .int 0, .int 0, .ref a1, .ref a2, .ref a3, .null, .null, .null, .null, .null, .null, .null, .null, .null, .null]))]) (cs1 := [[(q, .inr (0, [.int 0, .int 0, .int 0, .int 0, .ref a1, .ref a2, .ref a3, .null, .null, .null, .null, .null, .null, .null, .null, .null, .null]))], [(a1, .inl (E.2 0, 20, .inl (fun _ => 0)))], [(a2, .inl (E.2 0, 20, .inl (fun _ => 0)))], [(a3, .inl (E.2 0, 20, .inl (fun _ => 0)))]]) 0 0 rfl rfl rfl inX0 tyX0_ok nmX0 6 (by decide) q1_48 rfl rfl (by decide +kernel) rfl rfl (Nat.le_of_ble_eq_true rfl) rfl rfl dX0_init_25 ?_
  refine g_aload_n C dX0_init_28 rfl 0 rfl ?_
  refine g_bipush C (v := 20) dX0_init_29 (by decide) ?_
  refine g_newa C (atype := .int) (ty := .int) (a0 := (20, .inl (fun _ => 0))) q1_107 rfl 0 rfl (fun _ _ h => h) (fun _ => rfl) (by decide) (by decide) (Nat.le_of_ble_eq_true rfl) (Nat.le_of_ble_eq_true rfl) (Nat.le_of_ble_eq_true rfl) dX0_init_31 (fun a4 => ?_)
  refine g_putfF C I (T := TX0) (N := 17) (ty := (.array .int)) (w1 := [(q, .inr (0, [.int 0, .int 0, .int 0, .int 0, .ref a1, .ref a2, .ref a3, .ref a4, .null, .null, .null, .null, .null, .null, .null, .null, .null]))]) (cs1 := [[(q, .inr (0, [.int 0, .int 0, .int 0, .int 0, .ref a1, .ref a2, .ref a3, .ref a4, .null, .null, .null, .null, .null, .null, .null, .null, .null]))], [(a1, .inl (E.2 0, 20, .inl (fun _ => 0)))], [(a2, .inl (E.2 0, 20, .inl (fun _ => 0)))], [(a3, .inl (E.2 0, 20, .inl (fun _ => 0)))], [(a4, .inl (E.2 0, 20, .inl (fun _ => 0)))]]) 0 0 rfl rfl rfl inX0 tyX0_ok nmX0 7 (by decide) q1_50 rfl rfl (by decide +kernel) rfl rfl (Nat.le_of_ble_eq_true rfl) rfl rfl dX0_init_33 ?_
  refine g_aload_n C dX0_init_36 rfl 0 rfl ?_
  refine g_bipush C (v := 20) dX0_init_37 (by decide) ?_
  refine g_newa C (atype := .int) (ty := .int) (a0 := (20, .inl (fun _ => 0))) q1_107 rfl 0 rfl (fun _ _ h => h) (fun _ => rfl) (by decide) (by decide) (Nat.le_of_ble_eq_true rfl) (Nat.le_of_ble_eq_true rfl) (Nat.le_of_ble_eq_true rfl) dX0_init_39 (fun a5 => ?_)
  refine g_putfF C I (T := TX0) (N := 17) (ty := (.array .int)) (w1 := [(q, .inr (0, [.int 0, .int 0, .int 0, .int 0, .ref a1, .ref a2, .ref a3, .ref a4, .ref a5, .null, .null, .null, .null, .null, .null, .null, .null]))]) (cs1 := [[(q, .inr (0, [.int 0, .int 0, .int 0, .int 0, .ref a1, .ref a2, .ref a3, .ref a4, .ref a5, .null, .null, .null, .null, .null, .null, .null, .null]))], [(a1, .inl (E.2 0, 20, .inl (fun _ => 0)))], [(a2, .inl (E.2 0, 20, .inl (fun _ => 0)))], [(a3, .inl (E.2 0, 20, .inl (fun _ => 0)))], [(a4, .inl (E.2 0, 20, .inl (fun _ => 0)))], [(a5, .inl (E.2 0, 20, .inl (fun _ => 0)))]]) 0 0 rfl rfl rfl inX0 tyX0_ok nmX0 8 (by decide) q1_52 rfl rfl (by decide +kernel) rfl rfl (Nat.le_of_ble_eq_true rfl) rfl rfl dX0_init_41 ?_
  refine g_aload_n C dX0_init_44 rfl 0 rfl ?_
  refine g_bipush C (v := 20) dX0_init_45 (by decide) ?_
  refine g_newa C (atype := .int) (ty := .int) (a0 := (20, .inl (fun _ => 0))) q1_107 rfl 0 rfl (fun _ _ h => h) (fun _ => rfl) (by decide) (by decide) (Nat.le_of_ble_eq_true rfl) (Nat.le_of_ble_eq_true rfl) (Nat.le_of_ble_eq_true rfl) dX0_init_47 (fun a6 => ?_)
  refine g_putfF C I (T := TX0) (N := 17) (ty := (.array .int)) (w1 := [(q, .inr (0, [.int 0, .int 0, .int 0, .int 0, .ref a1, .ref a2, .ref a3, .ref a4, .ref a5, .ref a6, .null, .null, .null, .null, .null, .null, .null]))]) (cs1 := [[(q, .inr (0, [.int 0, .int 0, .int 0, .int 0, .ref a1, .ref a2, .ref a3, .ref a4, .ref a5, .ref a6, .null, .null, .null, .null, .null, .null, .null]))], [(a1, .inl (E.2 0, 20, .inl (fun _ => 0)))], [(a2, .inl (E.2 0, 20, .inl (fun _ => 0)))], [(a3, .inl (E.2 0, 20, .inl (fun _ => 0)))], [(a4, .inl (E.2 0, 20, .inl (fun _ => 0)))], [(a5, .inl (E.2 0, 20, .inl (fun _ => 0)))], [(a6, .inl (E.2 0, 20, .inl (fun _ => 0)))]]) 0 0 rfl rfl rfl inX0 tyX0_ok nmX0 9 (by decide) q1_54 rfl rfl (by decide +kernel) rfl rfl (Nat.le_of_ble_eq_true rfl) rfl rfl dX0_init_49 ?_
  refine g_aload_n C dX0_init_52 rfl 0 rfl ?_
  refine g_bipush C (v := 20) dX0_init_53 (by decide) ?_
  refine g_newa C (atype := .int) (ty := .int) (a0 := (20, .inl (fun _ => 0))) q1_107 rfl 0 rfl (fun _ _ h => h) (fun _ => rfl) (by decide) (by decide) (Nat.le_of_ble_eq_true rfl) (Nat.le_of_ble_eq_true rfl) (Nat.le_of_ble_eq_true rfl) dX0_init_55 (fun a7 => ?_)
  refine g_putfF C I (T := TX0) (N := 17) (ty := (.array .int)) (w1 := [(q, .inr (0, [.int 0, .int 0, .int 0, .int 0, .ref a1, .ref a2, .ref a3, .ref a4, .ref a5, .ref a6, .ref a7, .null, .null, .null, .null, .null, .null]))]) (cs1 := [[(q, .inr (0, [.int 0, .int 0, .int 0, .int 0, .ref a1, .ref a2, .ref a3, .ref a4, .ref a5, .ref a6, .ref a7, .null, .null, .null, .null, .null, .null]))], [(a1, .inl (E.2 0, 20, .inl (fun _ => 0)))], [(a2, .inl (E.2 0, 20, .inl (fun _ => 0)))], [(a3, .inl (E.2 0, 20, .inl (fun _ => 0)))], [(a4, .inl (E.2 0, 20, .inl (fun _ => 0)))], [(a5, .inl (E.2 0, 20, .inl (fun _ => 0)))], [(a6, .inl (E.2 0, 20, .inl (fun _ => 0)))], [(a7, .inl (E.2 0, 20, .inl (fun _ => 0)))]]) 0 0 rfl rfl rfl inX0 tyX0_ok nmX0 10 (by decide) q1_55 rfl rfl (by decide +kernel) rfl rfl (Nat.le_of_ble_eq_true rfl) rfl rfl dX0_init_57 ?_
  refine g_aload_n C dX0_init_60 rfl 0 rfl ?_
  refine g_bipush C (v := 20) dX0_init_61 (by decide) ?_
  refine g_newa C (atype := .int) (ty := .int) (a0 := (20, .inl (fun _ => 0))) q1_107 rfl 0 rfl (fun _ _ h => h) (fun _ => rfl) (by decide) (by decide) (Nat.le_of_ble_eq_true rfl) (Nat.le_of_ble_eq_true rfl) (Nat.le_of_ble_eq_true rfl) dX0_init_63 (fun a8 => ?_)
  refine g_putfF C I (T := TX0) (N := 17) (ty := (.array .int)) (w1 := [(q, .inr (0, [.int 0, .int 0, .int 0, .int 0, .ref a1, .ref a2, .ref a3, .ref a4, .ref a5, .ref a6, .ref a7, .ref a8, .null, .null, .null, .null, .null]))]) (cs1 := [[(q, .inr (0, [.int 0, .int 0, .int 0, .int 0, .ref a1, .ref a2, .ref a3, .ref a4, .ref a5, .ref a6, .ref a7, .ref a8, .null, .null, .null, .null, .null]))], [(a1, .inl (E.2 0, 20, .inl (fun _ => 0)))], [(a2, .inl (E.2 0, 20, .inl (fun _ => 0)))], [(a3, .inl (E.2 0, 20, .inl (fun _ => 0)))], [(a4, .inl (E.2 0, 20, .inl (fun _ => 0)))], [(a5, .inl (E.2 0, 20, .inl (fun _ => 0)))], [(a6, .inl (E.2 0, 20, .inl (fun _ => 0)))], [(a7, .inl (E.2 0, 20, .inl (fun _ => 0)))], [(a8, .inl (E.2 0, 20, .inl (fun _ => 0)))]]) 0 0 rfl rfl rfl inX0 tyX0_ok nmX0 11 (by decide) q1_57 rfl rfl (by decide +kernel) rfl rfl (Nat.le_of_ble_eq_true rfl) rfl rfl dX0_init_65 ?_
  refine g_aload_n C dX0_init_68 rfl 0 rfl ?_
  refine g_bipush C (v := 20) dX0_init_69 (by decide) ?_
  refine g_newa C (atype := .int) (ty := .int) (a0 := (20, .inl (fun _ => 0))) q1_107 rfl 0 rfl (fun _ _ h => h) (fun _ => rfl) (by decide) (by decide) (Nat.le_of_ble_eq_true rfl) (Nat.le_of_ble_eq_true rfl) (Nat.le_of_ble_eq_true rfl) dX0_init_71 (fun a9 => ?_)
  refine g_putfF C I (T := TX0) (N := 17) (ty := (.array .int)) (w1 := [(q, .inr (0, [.int 0, .int 0, .int 0, .int 0, .ref a1, .ref a2, .ref a3, .ref a4, .ref a5, .ref a6, .ref a7, .ref a8, .ref a9, .null, .null, .null, .null]))]) (cs1 := [[(q, .inr (0, [.int 0, .int 0, .int 0, .int 0, .ref a1, .ref a2, .ref a3, .ref a4, .ref a5, .ref a6, .ref a7, .ref a8, .ref a9, .null, .null, .null, .null]))], [(a1, .inl (E.2 0, 20, .inl (fun _ => 0)))], [(a2, .inl (E.2 0, 20, .inl (fun _ => 0)))], [(a3, .inl (E.2 0, 20, .inl (fun _ => 0)))], [(a4, .inl (E.2 0, 20, .inl (fun _ => 0)))], [(a5, .inl (E.2 0, 20, .inl (fun _ => 0)))], [(a6, .inl (E.2 0, 20, .inl (fun _ => 0)))], [(a7, .inl (E.2 0, 20, .inl (fun _ => 0)))], [(a8, .inl (E.2 0, 20, .inl (fun _ => 0)))], [(a9, .inl (E.2 0, 20, .inl (fun _ => 0)))]]) 0 0 rfl rfl rfl inX0 tyX0_ok nmX0 12 (by decide) q1_60 rfl rfl (by decide +kernel) rfl rfl (Nat.le_of_ble_eq_true rfl) rfl rfl dX0_init_73 ?_
  refine g_aload_n C dX0_init_76 rfl 0 rfl ?_
  refine g_bipush C (v := 20) dX0_init_77 (by decide) ?_
  refine g_newa C (atype := .int) (ty := .int) (a0 := (20, .inl (fun _ => 0))) q1_107 rfl 0 rfl (fun _ _ h => h) (fun _ => rfl) (by decide) (by decide) (Nat.le_of_ble_eq_true rfl) (Nat.le_of_ble_eq_true rfl) (Nat.le_of_ble_eq_true rfl) dX0_init_79 (fun a10 => ?_)
  refine g_putfF C I (T := TX0) (N := 17) (ty := (.array .int)) (w1 := [(q, .inr (0, [.int 0, .int 0, .int 0, .int 0, .ref a1, .ref a2, .ref a3, .ref a4, .ref a5, .ref a6, .ref a7, .ref a8, .ref a9, .ref a10, .null, .null, .null]))]) (cs1 := [[(q, .inr (0, [.int 0, .int 0, .int 0, .int 0, .ref a1, .ref a2, .ref a3, .ref a4, .ref a5, .ref a6, .ref a7, .ref a8, .ref a9, .ref a10, .null, .null, .null]))], [(a1, .inl (E.2 0, 20, .inl (fun _ => 0)))], [(a2, .inl (E.2 0, 20, .inl (fun _ => 0)))], [(a3, .inl (E.2 0, 20, .inl (fun _ => 0)))], [(a4, .inl (E.2 0, 20, .inl (fun _ => 0)))], [(a5, .inl (E.2 0, 20, .inl (fun _ => 0)))], [(a6, .inl (E.2 0, 20, .inl (fun _ => 0)))], [(a7, .inl (E.2 0, 20, .inl (fun _ => 0)))], [(a8, .inl (E.2 0, 20, .inl (fun _ => 0)))], [(a9, .inl (E.2 0, 20, .inl (fun _ => 0)))], [(a10, .inl (E.2 0, 20, .inl (fun _ => 0)))]]) 0 0 rfl rfl rfl inX0 tyX0_ok nmX0 13 (by decide) q1_62 rfl rfl (by decide +kernel) rfl rfl (Nat.le_of_ble_eq_true rfl) rfl rfl dX0_init_81 ?_
  refine g_aload_n C dX0_init_84 rfl 0 rfl ?_
  refine g_iconst C (v := 5) dX0_init_85 (by decide) ?_
  refine g_newa C (atype := .int) (ty := .int) (a0 := (5, .inl (fun _ => 0))) q1_107 rfl 0 rfl (fun _ _ h => h) (fun _ => rfl) (by decide) (by decide) (Nat.le_of_ble_eq_true rfl) (Nat.le_of_ble_eq_true rfl) (Nat.le_of_ble_eq_true rfl) dX0_init_86 (fun a11 => ?_)
  refine g_putfF C I (T := TX0) (N := 17) (ty := (.array .int)) (w1 := [(q, .inr (0, [.int 0, .int 0, .int 0, .int 0, .ref a1, .ref a2, .ref a3, .ref a4, .ref a5, .ref a6, .ref a7, .ref a8, .ref a9, .ref a10, .ref a11, .null, .null]))]) (cs1 := [[(q, .inr (0, [.int 0, .int 0, .int 0, .int 0, .ref a1, .ref a2, .ref a3, .ref a4, .ref a5, .ref a6, .ref a7, .ref a8, .ref a9, .ref a10, .ref a11, .null, .null]))], [(a1, .inl (E.2 0, 20, .inl (fun _ => 0)))], [(a2, .inl (E.2 0, 20, .inl (fun _ => 0)))], [(a3, .inl (E.2 0, 20, .inl (fun _ => 0)))], [(a4, .inl (E.2 0, 20, .inl (fun _ => 0)))], [(a5, .inl (E.2 0, 20, .inl (fun _ => 0)))], [(a6, .inl (E.2 0, 20, .inl (fun _ => 0)))], [(a7, .inl (E.2 0, 20, .inl (fun _ => 0)))], [(a8, .inl (E.2 0, 20, .inl (fun _ => 0)))], [(a9, .inl (E.2 0, 20, .inl (fun _ => 0)))], [(a10, .inl (E.2 0, 20, .inl (fun _ => 0)))], [(a11, .inl (E.2 0, 5, .inl (fun _ => 0)))]]) 0 0 rfl rfl rfl inX0 tyX0_ok nmX0 14 (by decide) q1_65 rfl rfl (by decide +kernel) rfl rfl (Nat.le_of_ble_eq_true rfl) rfl rfl dX0_init_88 ?_
  refine g_aload_n C dX0_init_91 rfl 0 rfl ?_
  refine g_iconst C (v := 5) dX0_init_92 (by decide) ?_
  refine g_newa C (atype := .int) (ty := .int) (a0 := (5, .inl (fun _ => 0))) q1_107 rfl 0 rfl (fun _ _ h => h) (fun _ => rfl) (by decide) (by decide) (Nat.le_of_ble_eq_true rfl) (Nat.le_of_ble_eq_true rfl) (Nat.le_of_ble_eq_true rfl) dX0_init_93 (fun a12 => ?_)
  refine g_putfF C I (T := TX0) (N := 17) (ty := (.array .int)) (w1 := [(q, .inr (0, [.int 0, .int 0, .int 0, .int 0, .ref a1, .ref a2, .ref a3, .ref a4, .ref a5, .ref a6, .ref a7, .ref a8, .ref a9, .ref a10, .ref a11, .ref a12, .null]))]) (cs1 := [[(q, .inr (0, [.int 0, .int 0, .int 0, .int 0, .ref a1, .ref a2, .ref a3, .ref a4, .ref a5, .ref a6, .ref a7, .ref a8, .ref a9, .ref a10, .ref a11, .ref a12, .null]))], [(a1, .inl (E.2 0, 20, .inl (fun _ => 0)))], [(a2, .inl (E.2 0, 20, .inl (fun _ => 0)))], [(a3, .inl (E.2 0, 20, .inl (fun _ => 0)))], [(a4, .inl (E.2 0, 20, .inl (fun _ => 0)))], [(a5, .inl (E.2 0, 20, .inl (fun _ => 0)))], [(a6, .inl (E.2 0, 20, .inl (fun _ => 0)))], [(a7, .inl (E.2 0, 20, .inl (fun _ => 0)))], [(a8, .inl (E.2 0, 20, .inl (fun _ => 0)))], [(a9, .inl (E.2 0, 20, .inl (fun _ => 0)))], [(a10, .inl (E.2 0, 20, .inl (fun _ => 0)))], [(a11, .inl (E.2 0, 5, .inl (fun _ => 0)))], [(a12, .inl (E.2 0, 5, .inl (fun _ => 0)))]]) 0 0 rfl rfl rfl inX0 tyX0_ok nmX0 15 (by decide) q1_67 rfl rfl (by decide +kernel) rfl rfl (Nat.le_of_ble_eq_true rfl) rfl rfl dX0_init_95 ?_
  refine g_aload_n C dX0_init_98 rfl 0 rfl ?_
  refine g_iconst C (v := 4) dX0_init_99 (by decide) ?_
  refine g_newa C (atype := .int) (ty := .int) (a0 := (4, .inl (fun _ => 0))) q1_107 rfl 0 rfl (fun _ _ h => h) (fun _ => rfl) (by decide) (by decide) (Nat.le_of_ble_eq_true rfl) (Nat.le_of_ble_eq_true rfl) (Nat.le_of_ble_eq_true rfl) dX0_init_100 (fun a13 => ?_)
  refine g_putfF C I (T := TX0) (N := 17) (ty := (.array .int)) (w1 := [(q, .inr (0, [.int 0, .int 0, .int 0, .int 0, .ref a1, .ref a2, .ref a3, .ref a4, .ref a5, .ref a6, .ref a7, .ref a8, .ref a9, .ref a10, .ref a11, .ref a12, .ref a13]))]) (cs1 := [[(q, .inr (0, [.int 0, .int 0, .int 0, .int 0, .ref a1, .ref a2, .ref a3, .ref a4, .ref a5, .ref a6, .ref a7, .ref a8, .ref a9, .ref a10, .ref a11, .ref a12, .ref a13]))], [(a1, .inl (E.2 0, 20, .inl (fun _ => 0)))], [(a2, .inl (E.2 0, 20, .inl (fun _ => 0)))], [(a3, .inl (E.2 0, 20, .inl (fun _ => 0)))], [(a4, .inl (E.2 0, 20, .inl (fun _ => 0)))], [(a5, .inl (E.2 0, 20, .inl (fun _ => 0)))], [(a6, .inl (E.2 0, 20, .inl (fun _ => 0)))], [(a7, .inl (E.2 0, 20, .inl (fun _ => 0)))], [(a8, .inl (E.2 0, 20, .inl (fun _ => 0)))], [(a9, .inl (E.2 0, 20, .inl (fun _ => 0)))], [(a10, .inl (E.2 0, 20, .inl (fun _ => 0)))], [(a11, .inl (E.2 0, 5, .inl (fun _ => 0)))], [(a12, .inl (E.2 0, 5, .inl (fun _ => 0)))], [(a13, .inl (E.2 0, 4, .inl (fun _ => 0)))]]) 0 0 rfl rfl rfl inX0 tyX0_ok nmX0 16 (by decide) q1_69 rfl rfl (by decide +kernel) rfl rfl (Nat.le_of_ble_eq_true rfl) rfl rfl dX0_init_102 ?_
  refine g_iconst C (v := 0) dX0_init_105 (by decide) ?_
  refine g_istore_n C (lv1 := [(1, .int 0), (0, .ref q)]) dX0_init_106 rfl (by decide) rfl ?_
  refine g_iload_n C dX0_init_107 rfl 0 rfl ?_
  refine g_iconst C (v := 5) dX0_init_108 (by decide) ?_
  refine g_icmp_ge C 126 dX0_init_109 (by decide) (fun c14 => absurd c14 (by decide)) (fun _ => ?_)
  refine g_aload_n C dX0_init_112 rfl 1 rfl ?_
  refine g_getf C (T := TX0) (N := 17) 0 0 rfl rfl rfl inX0 14 (by decide) q1_65 rfl dX0_init_113 ?_
  refine g_iload_n C dX0_init_116 rfl 0 rfl ?_
  refine g_bipush C (v := 20) dX0_init_117 (by decide) ?_
  refine g_iastn C (w1 := [(a11, .inl (E.2 0, 5, .inl (upd (fun _ => 0) 0 20)))]) (cs1 := [[(q, .inr (0, [.int 0, .int 0, .int 0, .int 0, .ref a1, .ref a2, .ref a3, .ref a4, .ref a5, .ref a6, .ref a7, .ref a8, .ref a9, .ref a10, .ref a11, .ref a12, .ref a13]))], [(a1, .inl (E.2 0, 20, .inl (fun _ => 0)))], [(a2, .inl (E.2 0, 20, .inl (fun _ => 0)))], [(a3, .inl (E.2 0, 20, .inl (fun _ => 0)))], [(a4, .inl (E.2 0, 20, .inl (fun _ => 0)))], [(a5, .inl (E.2 0, 20, .inl (fun _ => 0)))], [(a6, .inl (E.2 0, 20, .inl (fun _ => 0)))], [(a7, .inl (E.2 0, 20, .inl (fun _ => 0)))], [(a8, .inl (E.2 0, 20, .inl (fun _ => 0)))], [(a9, .inl (E.2 0, 20, .inl (fun _ => 0)))], [(a10, .inl (E.2 0, 20, .inl (fun _ => 0)))], [(a11, .inl (E.2 0, 5, .inl (upd (fun _ => 0) 0 20)))], [(a12, .inl (E.2 0, 5, .inl (fun _ => 0)))], [(a13, .inl (E.2 0, 4, .inl (fun _ => 0)))]]) 11 0 0 rfl rfl rfl (by decide) (by decide) rfl rfl dX0_init_119 ?_
  refine g_iinc C (v := 1) (lv1 := [(1, .int 1), (0, .ref q)]) dX0_init_120 0 rfl (by decide) (by decide) rfl ?_
  refine g_goto C 107 dX0_init_123 (by decide) ?_
  refine g_iload_n C dX0_init_107 rfl 0 rfl ?_
  refine g_iconst C (v := 5) dX0_init_108 (by decide) ?_
  refine g_icmp_ge C 126 dX0_init_109 (by decide) (fun c15 => absurd c15 (by decide)) (fun _ => ?_)
  refine g_aload_n C dX0_init_112 rfl 1 rfl ?_
  refine g_getf C (T := TX0) (N := 17) 0 0 rfl rfl rfl inX0 14 (by decide) q1_65 rfl dX0_init_113 ?_
  refine g_iload_n C dX0_init_116 rfl 0 rfl ?_
  refine g_bipush C (v := 20) dX0_init_117 (by decide) ?_
  refine g_iastn C (w1 := [(a11, .inl (E.2 0, 5, .inl (upd (upd (fun _ => 0) 0 20) 1 20)))]) (cs1 := [[(q, .inr (0, [.int 0, .int 0, .int 0, .int 0, .ref a1, .ref a2, .ref a3, .ref a4, .ref a5, .ref a6, .ref a7, .ref a8, .ref a9, .ref a10, .ref a11, .ref a12, .ref a13]))], [(a1, .inl (E.2 0, 20, .inl (fun _ => 0)))], [(a2, .inl (E.2 0, 20, .inl (fun _ => 0)))], [(a3, .inl (E.2 0, 20, .inl (fun _ => 0)))], [(a4, .inl (E.2 0, 20, .inl (fun _ => 0)))], [(a5, .inl (E.2 0, 20, .inl (fun _ => 0)))], [(a6, .inl (E.2 0, 20, .inl (fun _ => 0)))], [(a7, .inl (E.2 0, 20, .inl (fun _ => 0)))], [(a8, .inl (E.2 0, 20, .inl (fun _ => 0)))], [(a9, .inl (E.2 0, 20, .inl (fun _ => 0)))], [(a10, .inl (E.2 0, 20, .inl (fun _ => 0)))], [(a11, .inl (E.2 0, 5, .inl (upd (upd (fun _ => 0) 0 20) 1 20)))], [(a12, .inl (E.2 0, 5, .inl (fun _ => 0)))], [(a13, .inl (E.2 0, 4, .inl (fun _ => 0)))]]) 11 0 1 rfl rfl rfl (by decide) (by decide) rfl rfl dX0_init_119 ?_
  refine g_iinc C (v := 2) (lv1 := [(1, .int 2), (0, .ref q)]) dX0_init_120 0 rfl (by decide) (by decide) rfl ?_
  refine g_goto C 107 dX0_init_123 (by decide) ?_
  refine g_iload_n C dX0_init_107 rfl 0 rfl ?_
  refine g_iconst C (v := 5) dX0_init_108 (by decide) ?_
  refine g_icmp_ge C 126 dX0_init_109 (by decide) (fun c16 => absurd c16 (by decide)) (fun _ => ?_)
  refine g_aload_n C dX0_init_112 rfl 1 rfl ?_
  refine g_getf C (T := TX0) (N := 17) 0 0 rfl rfl rfl inX0 14 (by decide) q1_65 rfl dX0_init_113 ?_
  refine g_iload_n C dX0_init_116 rfl 0 rfl ?_
  refine g_bipush C (v := 20) dX0_init_117 (by decide) ?_
  refine g_iastn C (w1 := [(a11, .inl (E.2 0, 5, .inl (upd (upd (upd (fun _ => 0) 0 20) 1 20) 2 20)))]) (cs1 := [[(q, .inr (0, [.int 0, .int 0, .int 0, .int 0, .ref a1, .ref a2, .ref a3, .ref a4, .ref a5, .ref a6, .ref a7, .ref a8, .ref a9, .ref a10, .ref a11, .ref a12, .ref a13]))], [(a1, .inl (E.2 0, 20, .inl (fun _ => 0)))], [(a2, .inl (E.2 0, 20, .inl (fun _ => 0)))], [(a3, .inl (E.2 0, 20, .inl (fun _ => 0)))], [(a4, .inl (E.2 0, 20, .inl (fun _ => 0)))], [(a5, .inl (E.2 0, 20, .inl (fun _ => 0)))], [(a6, .inl (E.2 0, 20, .inl (fun _ => 0)))], [(a7, .inl (E.2 0, 20, .inl (fun _ => 0)))], [(a8, .inl (E.2 0, 20, .inl (fun _ => 0)))], [(a9, .inl (E.2 0, 20, .inl (fun _ => 0)))], [(a10, .inl (E.2 0, 20, .inl (fun _ => 0)))], [(a11, .inl (E.2 0, 5, .inl (upd (upd (upd (fun _ => 0) 0 20) 1 20) 2 20)))], [(a12, .inl (E.2 0, 5, .inl (fun _ => 0)))], [(a13, .inl (E.2 0, 4, .inl (fun _ => 0)))]]) 11 0 2 rfl rfl rfl (by decide) (by decide) rfl rfl dX0_init_119 ?_
  refine g_iinc C (v := 3) (lv1 := [(1, .int 3), (0, .ref q)]) dX0_init_120 0 rfl (by decide) (by decide) rfl ?_
  refine g_goto C 107 dX0_init_123 (by decide) ?_
  refine g_iload_n C dX0_init_107 rfl 0 rfl ?_
  refine g_iconst C (v := 5) dX0_init_108 (by decide) ?_
  refine g_icmp_ge C 126 dX0_init_109 (by decide) (fun c17 => absurd c17 (by decide)) (fun _ => ?_)
  refine g_aload_n C dX0_init_112 rfl 1 rfl ?_
  refine g_getf C (T := TX0) (N := 17) 0 0 rfl rfl rfl inX0 14 (by decide) q1_65 rfl dX0_init_113 ?_
  refine g_iload_n C dX0_init_116 rfl 0 rfl ?_
  refine g_bipush C (v := 20) dX0_init_117 (by decide) ?_
  refine g_iastn C (w1 := [(a11, .inl (E.2 0, 5, .inl (upd (upd (upd (upd (fun _ => 0) 0 20) 1 20) 2 20) 3 20)))]) (cs1 := [[(q, .inr (0, [.int 0, .int 0, .int 0, .int 0, .ref a1, .ref a2, .ref a3, .ref a4, .ref a5, .ref a6, .ref a7, .ref a8, .ref a9, .ref a10, .ref a11, .ref a12, .ref a13]))], [(a1, .inl (E.2 0, 20, .inl (fun _ => 0)))], [(a2, .inl (E.2 0, 20, .inl (fun _ => 0)))], [(a3, .inl (E.2 0, 20, .inl (fun _ => 0)))], [(a4, .inl (E.2 0, 20, .inl (fun _ => 0)))], [(a5, .inl (E.2 0, 20, .inl (fun _ => 0)))], [(a6, .inl (E.2 0, 20, .inl (fun _ => 0)))], [(a7, .inl (E.2 0, 20, .inl (fun _ => 0)))], [(a8, .inl (E.2 0, 20, .inl (fun _ => 0)))], [(a9, .inl (E.2 0, 20, .inl (fun _ => 0)))], [(a10, .inl (E.2 0, 20, .inl (fun _ => 0)))], [(a11, .inl (E.2 0, 5, .inl (upd (upd (upd (upd (fun _ => 0) 0 20) 1 20) 2 20) 3 20)))], [(a12, .inl (E.2 0, 5, .inl (fun _ => 0)))], [(a13, .inl (E.2 0, 4, .inl (fun _ => 0)))]]) 11 0 3 rfl rfl rfl (by decide) (by decide) rfl rfl dX0_init_119 ?_
  refine g_iinc C (v := 4) (lv1 := [(1, .int 4), (0, .ref q)]) dX0_init_120 0 rfl (by decide) (by decide) rfl ?_
  refine g_goto C 107 dX0_init_123 (by decide) ?_
  refine g_iload_n C dX0_init_107 rfl 0 rfl ?_
  refine g_iconst C (v := 5) dX0_init_108 (by decide) ?_
  refine g_icmp_ge C 126 dX0_init_109 (by decide) (fun c18 => absurd c18 (by decide)) (fun _ => ?_)
  refine g_aload_n C dX0_init_112 rfl 1 rfl ?_
  refine g_getf C (T := TX0) (N := 17) 0 0 rfl rfl rfl inX0 14 (by decide) q1_65 rfl dX0_init_113 ?_
  refine g_iload_n C dX0_init_116 rfl 0 rfl ?_
  refine g_bipush C (v := 20) dX0_init_117 (by decide) ?_
  refine g_iastn C (w1 := [(a11, .inl (E.2 0, 5, .inl (upd (upd (upd (upd (upd (fun _ => 0) 0 20) 1 20) 2 20) 3 20) 4 20)))]) (cs1 := [[(q, .inr (0, [.int 0, .int 0, .int 0, .int 0, .ref a1, .ref a2, .ref a3, .ref a4, .ref a5, .ref a6, .ref a7, .ref a8, .ref a9, .ref a10, .ref a11, .ref a12, .ref a13]))], [(a1, .inl (E.2 0, 20, .inl (fun _ => 0)))], [(a2, .inl (E.2 0, 20, .inl (fun _ => 0)))], [(a3, .inl (E.2 0, 20, .inl (fun _ => 0)))], [(a4, .inl (E.2 0, 20, .inl (fun _ => 0)))], [(a5, .inl (E.2 0, 20, .inl (fun _ => 0)))], [(a6, .inl (E.2 0, 20, .inl (fun _ => 0)))], [(a7, .inl (E.2 0, 20, .inl (fun _ => 0)))], [(a8, .inl (E.2 0, 20, .inl (fun _ => 0)))], [(a9, .inl (E.2 0, 20, .inl (fun _ => 0)))], [(a10, .inl (E.2 0, 20, .inl (fun _ => 0)))], [(a11, .inl (E.2 0, 5, .inl (upd (upd (upd (upd (upd (fun _ => 0) 0 20) 1 20) 2 20) 3 20) 4 20)))], [(a12, .inl (E.2 0, 5, .inl (fun _ => 0)))], [(a13, .inl (E.2 0, 4, .inl (fun _ => 0)))]]) 11 0 4 rfl rfl rfl (by decide) (by decide) rfl rfl dX0_init_119 ?_
  refine g_iinc C (v := 5) (lv1 := [(1, .int 5), (0, .ref q)]) dX0_init_120 0 rfl (by decide) (by decide) rfl ?_
  refine g_goto C 107 dX0_init_123 (by decide) ?_
  refine g_iload_n C dX0_init_107 rfl 0 rfl ?_
  refine g_iconst C (v := 5) dX0_init_108 (by decide) ?_
  refine g_icmp_ge C 126 dX0_init_109 (by decide) (fun _ => ?_) (fun c19 => absurd (by decide) c19)
  refine g_iconst C (v := 0) dX0_init_126 (by decide) ?_
  refine g_istore_n C (lv1 := [(1, .int 0), (0, .ref q)]) dX0_init_127 rfl (by decide) rfl ?_
  refine g_iload_n C dX0_init_128 rfl 0 rfl ?_
  refine g_iconst C (v := 4) dX0_init_129 (by decide) ?_
  refine g_icmp_ge C 151 dX0_init_130 (by decide) (fun c20 => absurd c20 (by decide)) (fun _ => ?_)
  refine g_aload_n C dX0_init_133 rfl 1 rfl ?_
  refine g_getf C (T := TX0) (N := 17) 0 0 rfl rfl rfl inX0 16 (by decide) q1_69 rfl dX0_init_134 ?_
  refine g_iload_n C dX0_init_137 rfl 0 rfl ?_
  refine g_bipush C (v := 10) dX0_init_138 (by decide) ?_
  refine g_iload_n C dX0_init_140 rfl 0 rfl ?_
  refine g_iconst C (v := 1) dX0_init_141 (by decide) ?_
  refine g_iadd C dX0_init_142 ?_
  refine g_st (st1 := [.int 1, .int 10, .int 0, .ref a13]) rfl ?_
  refine g_imul C dX0_init_143 ?_
  refine g_st (st1 := [.int 10, .int 0, .ref a13]) rfl ?_
  refine g_iastn C (w1 := [(a13, .inl (E.2 0, 4, .inl (upd (fun _ => 0) 0 10)))]) (cs1 := [[(q, .inr (0, [.int 0, .int 0, .int 0, .int 0, .ref a1, .ref a2, .ref a3, .ref a4, .ref a5, .ref a6, .ref a7, .ref a8, .ref a9, .ref a10, .ref a11, .ref a12, .ref a13]))], [(a1, .inl (E.2 0, 20, .inl (fun _ => 0)))], [(a2, .inl (E.2 0, 20, .inl (fun _ => 0)))], [(a3, .inl (E.2 0, 20, .inl (fun _ => 0)))], [(a4, .inl (E.2 0, 20, .inl (fun _ => 0)))], [(a5, .inl (E.2 0, 20, .inl (fun _ => 0)))], [(a6, .inl (E.2 0, 20, .inl (fun _ => 0)))], [(a7, .inl (E.2 0, 20, .inl (fun _ => 0)))], [(a8, .inl (E.2 0, 20, .inl (fun _ => 0)))], [(a9, .inl (E.2 0, 20, .inl (fun _ => 0)))], [(a10, .inl (E.2 0, 20, .inl (fun _ => 0)))], [(a11, .inl (E.2 0, 5, .inl (upd (upd (upd (upd (upd (fun _ => 0) 0 20) 1 20) 2 20) 3 20) 4 20)))], [(a12, .inl (E.2 0, 5, .inl (fun _ => 0)))], [(a13, .inl (E.2 0, 4, .inl (upd (fun _ => 0) 0 10)))]]) 13 0 0 rfl rfl rfl (by decide) (by decide) rfl rfl dX0_init_144 ?_
  refine g_iinc C (v := 1) (lv1 := [(1, .int 1), (0, .ref q)]) dX0_init_145 0 rfl (by decide) (by decide) rfl ?_
  refine g_goto C 128 dX0_init_148 (by decide) ?_
  refine g_iload_n C dX0_init_128 rfl 0 rfl ?_
  refine g_iconst C (v := 4) dX0_init_129 (by decide) ?_
  refine g_icmp_ge C 151 dX0_init_130 (by decide) (fun c21 => absurd c21 (by decide)) (fun _ => ?_)
  refine g_aload_n C dX0_init_133 rfl 1 rfl ?_
  refine g_getf C (T := TX0) (N := 17) 0 0 rfl rfl rfl inX0 16 (by decide) q1_69 rfl dX0_init_134 ?_
  refine g_iload_n C dX0_init_137 rfl 0 rfl ?_
  refine g_bipush C (v := 10) dX0_init_138 (by decide) ?_
  refine g_iload_n C dX0_init_140 rfl 0 rfl ?_
  refine g_iconst C (v := 1) dX0_init_141 (by decide) ?_
  refine g_iadd C dX0_init_142 ?_
  refine g_st (st1 := [.int 2, .int 10, .int 1, .ref a13]) rfl ?_
  refine g_imul C dX0_init_143 ?_
  refine g_st (st1 := [.int 20, .int 1, .ref a13]) rfl ?_
  refine g_iastn C (w1 := [(a13, .inl (E.2 0, 4, .inl (upd (upd (fun _ => 0) 0 10) 1 20)))]) (cs1 := [[(q, .inr (0, [.int 0, .int 0, .int 0, .int 0, .ref a1, .ref a2, .ref a3, .ref a4, .ref a5, .ref a6, .ref a7, .ref a8, .ref a9, .ref a10, .ref a11, .ref a12, .ref a13]))], [(a1, .inl (E.2 0, 20, .inl (fun _ => 0)))], [(a2, .inl (E.2 0, 20, .inl (fun _ => 0)))], [(a3, .inl (E.2 0, 20, .inl (fun _ => 0)))], [(a4, .inl (E.2 0, 20, .inl (fun _ => 0)))], [(a5, .inl (E.2 0, 20, .inl (fun _ => 0)))], [(a6, .inl (E.2 0, 20, .inl (fun _ => 0)))], [(a7, .inl (E.2 0, 20, .inl (fun _ => 0)))], [(a8, .inl (E.2 0, 20, .inl (fun _ => 0)))], [(a9, .inl (E.2 0, 20, .inl (fun _ => 0)))], [(a10, .inl (E.2 0, 20, .inl (fun _ => 0)))], [(a11, .inl (E.2 0, 5, .inl (upd (upd (upd (upd (upd (fun _ => 0) 0 20) 1 20) 2 20) 3 20) 4 20)))], [(a12, .inl (E.2 0, 5, .inl (fun _ => 0)))], [(a13, .inl (E.2 0, 4, .inl (upd (upd (fun _ => 0) 0 10) 1 20)))]]) 13 0 1 rfl rfl rfl (by decide) (by decide) rfl rfl dX0_init_144 ?_
  refine g_iinc C (v := 2) (lv1 := [(1, .int 2), (0, .ref q)]) dX0_init_145 0 rfl (by decide) (by decide) rfl ?_
  refine g_goto C 128 dX0_init_148 (by decide) ?_
  refine g_iload_n C dX0_init_128 rfl 0 rfl ?_
  refine g_iconst C (v := 4) dX0_init_129 (by decide) ?_
  refine g_icmp_ge C 151 dX0_init_130 (by decide) (fun c22 => absurd c22 (by decide)) (fun _ => ?_)
  refine g_aload_n C dX0_init_133 rfl 1 rfl ?_
  refine g_getf C (T := TX0) (N := 17) 0 0 rfl rfl rfl inX0 16 (by decide) q1_69 rfl dX0_init_134 ?_
  refine g_iload_n C dX0_init_137 rfl 0 rfl ?_
  refine g_bipush C (v := 10) dX0_init_138 (by decide) ?_
  refine g_iload_n C dX0_init_140 rfl 0 rfl ?_
  refine g_iconst C (v := 1) dX0_init_141 (by decide) ?_
  refine g_iadd C dX0_init_142 ?_
  refine g_st (st1 := [.int 3, .int 10, .int 2, .ref a13]) rfl ?_
  refine g_imul C dX0_init_143 ?_
  refine g_st (st1 := [.int 30, .int 2, .ref a13]) rfl ?_
  refine g_iastn C (w1 := [(a13, .inl (E.2 0, 4, .inl (upd (upd (upd (fun _ => 0) 0 10) 1 20) 2 30)))]) (cs1 := [[(q, .inr (0, [.int 0, .int 0, .int 0, .int 0, .ref a1, .ref a2, .ref a3, .ref a4, .ref a5, .ref a6, .ref a7, .ref a8, .ref a9, .ref a10, .ref a11, .ref a12, .ref a13]))], [(a1, .inl (E.2 0, 20, .inl (fun _ => 0)))], [(a2, .inl (E.2 0, 20, .inl (fun _ => 0)))], [(a3, .inl (E.2 0, 20, .inl (fun _ => 0)))], [(a4, .inl (E.2 0, 20, .inl (fun _ => 0)))], [(a5, .inl (E.2 0, 20, .inl (fun _ => 0)))], [(a6, .inl (E.2 0, 20, .inl (fun _ => 0)))], [(a7, .inl (E.2 0, 20, .inl (fun _ => 0)))], [(a8, .inl (E.2 0, 20, .inl (fun _ => 0)))], [(a9, .inl (E.2 0, 20, .inl (fun _ => 0)))], [(a10, .inl (E.2 0, 20, .inl (fun _ => 0)))], [(a11, .inl (E.2 0, 5, .inl (upd (upd (upd (upd (upd (fun _ => 0) 0 20) 1 20) 2 20) 3 20) 4 20)))], [(a12, .inl (E.2 0, 5, .inl (fun _ => 0)))], [(a13, .inl (E.2 0, 4, .inl (upd (upd (upd (fun _ => 0) 0 10) 1 20) 2 30)))]]) 13 0 2 rfl rfl rfl (by decide) (by decide) rfl rfl dX0_init_144 ?_
  refine g_iinc C (v := 3) (lv1 := [(1, .int 3), (0, .ref q)]) dX0_init_145 0 rfl (by decide) (by decide) rfl ?_
  refine g_goto C 128 dX0_init_148 (by decide) ?_
  refine g_iload_n C dX0_init_128 rfl 0 rfl ?_
  refine g_iconst C (v := 4) dX0_init_129 (by decide) ?_
  refine g_icmp_ge C 151 dX0_init_130 (by decide) (fun c23 => absurd c23 (by decide)) (fun _ => ?_)
  refine g_aload_n C dX0_init_133 rfl 1 rfl ?_
  refine g_getf C (T := TX0) (N := 17) 0 0 rfl rfl rfl inX0 16 (by decide) q1_69 rfl dX0_init_134 ?_
  refine g_iload_n C dX0_init_137 rfl 0 rfl ?_
  refine g_bipush C (v := 10) dX0_init_138 (by decide) ?_
  refine g_iload_n C dX0_init_140 rfl 0 rfl ?_
  refine g_iconst C (v := 1) dX0_init_141 (by decide) ?_
  refine g_iadd C dX0_init_142 ?_
  refine g_st (st1 := [.int 4, .int 10, .int 3, .ref a13]) rfl ?_
  refine g_imul C dX0_init_143 ?_
  refine g_st (st1 := [.int 40, .int 3, .ref a13]) rfl ?_
  refine g_iastn C (w1 := [(a13, .inl (E.2 0, 4, .inl (upd (upd (upd (upd (fun _ => 0) 0 10) 1 20) 2 30) 3 40)))]) (cs1 := [[(q, .inr (0, [.int 0, .int 0, .int 0, .int 0, .ref a1, .ref a2, .ref a3, .ref a4, .ref a5, .ref a6, .ref a7, .ref a8, .ref a9, .ref a10, .ref a11, .ref a12, .ref a13]))], [(a1, .inl (E.2 0, 20, .inl (fun _ => 0)))], [(a2, .inl (E.2 0, 20, .inl (fun _ => 0)))], [(a3, .inl (E.2 0, 20, .inl (fun _ => 0)))], [(a4, .inl (E.2 0, 20, .inl (fun _ => 0)))], [(a5, .inl (E.2 0, 20, .inl (fun _ => 0)))], [(a6, .inl (E.2 0, 20, .inl (fun _ => 0)))], [(a7, .inl (E.2 0, 20, .inl (fun _ => 0)))], [(a8, .inl (E.2 0, 20, .inl (fun _ => 0)))], [(a9, .inl (E.2 0, 20, .inl (fun _ => 0)))], [(a10, .inl (E.2 0, 20, .inl (fun _ => 0)))], [(a11, .inl (E.2 0, 5, .inl (upd (upd (upd (upd (upd (fun _ => 0) 0 20) 1 20) 2 20) 3 20) 4 20)))], [(a12, .inl (E.2 0, 5, .inl (fun _ => 0)))], [(a13, .inl (E.2 0, 4, .inl (upd (upd (upd (upd (fun _ => 0) 0 10) 1 20) 2 30) 3 40)))]]) 13 0 3 rfl rfl rfl (by decide) (by decide) rfl rfl dX0_init_144 ?_
  refine g_iinc C (v := 4) (lv1 := [(1, .int 4), (0, .ref q)]) dX0_init_145 0 rfl (by decide) (by decide) rfl ?_
  refine g_goto C 128 dX0_init_148 (by decide) ?_
  refine g_iload_n C dX0_init_128 rfl 0 rfl ?_
  refine g_iconst C (v := 4) dX0_init_129 (by decide) ?_
  refine g_icmp_ge C 151 dX0_init_130 (by decide) (fun _ => ?_) (fun c24 => absurd (by decide) c24)
  refine g_perm (cs1 := [wB E (fun i => [q, a1, a2, a3, a4, a5, a6, a7, a8, a9, a10, a11, a12, a13].getD i 0) iB]) (List.Perm.of_eq rfl) ?_
  exact g_vretN C hE ⟨fun i => [q, a1, a2, a3, a4, a5, a6, a7, a8, a9, a10, a11, a12, a13].getD i 0, rfl, rfl⟩ dX0_init_151
set_option maxHeartbeats 8000000 in
set_option maxRecDepth 100000 in
theorem kX1_init (l : Launch) (E : gE) (q : Nat) : MN l E yX1_init cX1_init 1 4 80 1 24 [.ref q] [[(q, .inr (1, [.null, .null, .null, .null]))]] (fun cs' => ∃ ad : Nat → Nat, ad 0 = q ∧ cs' = [wC E ad iZ]) := by
  refine mn_of (by decide +kernel) rfl (Nat.le_of_ble_eq_true rfl) (lv := [(0, .ref q)]) rfl (fun X C I hE => ?_)
  refine g_aload_n C dX1_init_0 rfl 0 rfl ?_
  refine g_objinit C q1_113 q1_22 q1_23 (Nat.le_of_ble_eq_true rfl) (Nat.le_of_ble_eq_true rfl) dX1_init_1 ?_
  refine g_aload_n C dX1_init_4 rfl 0 rfl ?_
  refine g_bipush C (v := 20) dX1_init_5 (by decide) ?_
  refine g_newa C (atype := .int) (ty := .int) (a0 := (20, .inl (fun _ => 0))) q1_107 rfl 0 rfl (fun _ _ h => h) (fun _ => rfl) (by decide) (by decide) (Nat.le_of_ble_eq_true rfl) (Nat.le_of_ble_eq_true rfl) (Nat.le_of_ble_eq_true rfl) dX1_init_7 (fun a1 => ?_)
  refine g_putfF C I (T := TX1) (N := 4) (ty := (.array .int)) (w1 := [(q, .inr (1, [.ref a1, .null, .null, .null]))]) (cs1 := [[(q, .inr (1, [.ref a1, .null, .null, .null]))], [(a1, .inl (E.2 0, 20, .inl (fun _ => 0)))]]) 0 0 rfl rfl rfl inX1 tyX1_ok nmX1 0 (by decide) q1_114 rfl rfl (by decide +kernel) rfl rfl (Nat.le_of_ble_eq_true rfl) rfl rfl dX1_init_9 ?_
  refine g_aload_n C dX1_init_12 rfl 0 rfl ?_
  refine g_bipush C (v := 20) dX1_init_13 (by decide) ?_
  refine g_newa C (atype := .int) (ty := .int) (a0 := (20, .inl (fun _ => 0))) q1_107 rfl 0 rfl (fun _ _ h => h) (fun _ => rfl) (by decide) (by decide) (Nat.le_of_ble_eq_true rfl) (Nat.le_of_ble_eq_true rfl) (Nat.le_of_ble_eq_true rfl) dX1_init_15 (fun a2 => ?_)
  refine g_putfF C I (T := TX1) (N := 4) (ty := (.array .int)) (w1 := [(q, .inr (1, [.ref a1, .ref a2, .null, .null]))]) (cs1 := [[(q, .inr (1, [.ref a1, .ref a2, .null, .null]))], [(a1, .inl (E.2 0, 20, .inl (fun _ => 0)))], [(a2, .inl (E.2 0, 20, .inl (fun _ => 0)))]]) 0 0 rfl rfl rfl inX1 tyX1_ok nmX1 1 (by decide) q1_115 rfl rfl (by decide +kernel) rfl rfl (Nat.le_of_ble_eq_true rfl) rfl rfl dX1_init_17 ?_
  refine g_aload_n C dX1_init_20 rfl 0 rfl ?_
  refine g_bipush C (v := 20) dX1_init_21 (by decide) ?_
  refine g_newa C (atype := .int) (ty := .int) (a0 := (20, .inl (fun _ => 0))) q1_107 rfl 0 rfl (fun _ _ h => h) (fun _ => rfl) (by decide) (by decide) (Nat.le_of_ble_eq_true rfl) (Nat.le_of_ble_eq_true rfl) (Nat.le_of_ble_eq_true rfl) dX1_init_23 (fun a3 => ?_)
  refine g_putfF C I (T := TX1) (N := 4) (ty := (.array .int)) (w1 := [(q, .inr (1, [.ref a1, .ref a2, .ref a3, .null]))]) (cs1 := [[(q, .inr (1, [.ref a1, .ref a2, .ref a3, .null]))], [(a1, .inl (E.2 0, 20, .inl (fun _ => 0)))], [(a2, .inl (E.2 0, 20, .inl (fun _ => 0)))], [(a3, .inl (E.2 0, 20, .inl (fun _ => 0)))]]) 0 0 rfl rfl rfl inX1 tyX1_ok nmX1 2 (by decide) q1_116 rfl rfl (by decide +kernel) rfl rfl (Nat.le_of_ble_eq_true rfl) rfl rfl dX1_init_25 ?_
  refine g_aload_n C dX1_init_28 rfl 0 rfl ?_
  refine g_bipush C (v := 20) dX1_init_29 (by decide) ?_
  refine g_newa C (atype := .int) (ty := .int) (a0 := (20, .inl (fun _ => 0))) q1_107 rfl 0 rfl (fun _ _ h => h) (fun _ => rfl) (by decide) (by decide) (Nat.le_of_ble_eq_true rfl) (Nat.le_of_ble_eq_true rfl) (Nat.le_of_ble_eq_true rfl) dX1_init_31 (fun a4 => ?_)
  refine g_putfF C I (T := TX1) (N := 4) (ty := (.array .int)) (w1 := [(q, .inr (1, [.ref a1, .ref a2, .ref a3, .ref a4]))]) (cs1 := [[(q, .inr (1, [.ref a1, .ref a2, .ref a3, .ref a4]))], [(a1, .inl (E.2 0, 20, .inl (fun _ => 0)))], [(a2, .inl (E.2 0, 20, .inl (fun _ => 0)))], [(a3, .inl (E.2 0, 20, .inl (fun _ => 0)))], [(a4, .inl (E.2 0, 20, .inl (fun _ => 0)))]]) 0 0 rfl rfl rfl inX1 tyX1_ok nmX1 3 (by decide) q1_117 rfl rfl (by decide +kernel) rfl rfl (Nat.le_of_ble_eq_true rfl) rfl rfl dX1_init_33 ?_
  refine g_perm (cs1 := [wC E (fun i => [q, a1, a2, a3, a4].getD i 0) iZ]) (List.Perm.of_eq rfl) ?_
  exact g_vretN C hE ⟨fun i => [q, a1, a2, a3, a4].getD i 0, rfl, rfl⟩ dX1_init_36
set_option maxHeartbeats 8000000 in
set_option maxRecDepth 100000 in
theorem kX4_init (l : Launch) (E : gE) (q : Nat) : MN l E yX4_init cX4_init 1 4 120 1 24 [.ref q] [[(q, .inr (3, [.null, .int 0, .int 0, .null, .null, .null, .int 0]))]] (fun cs' => ∃ ad : Nat → Nat, ad 0 = q ∧ cs' = [wT E ad iZ]) := by
  refine mn_of (by decide +kernel) rfl (Nat.le_of_ble_eq_true rfl) (lv := [(0, .ref q)]) rfl (fun X C I hE => ?_)
  refine g_aload_n C dX4_init_0 rfl 0 rfl ?_
  refine g_objinit C q1_158 q1_22 q1_23 (Nat.le_of_ble_eq_true rfl) (Nat.le_of_ble_eq_true rfl) dX4_init_1 ?_
  refine g_aload_n C dX4_init_4 rfl 0 rfl ?_
  refine g_bipush C (v := 60) dX4_init_5 (by decide) ?_
  refine g_newa C (atype := .char) (ty := .char) (a0 := (60, .inl (fun _ => 0))) q1_178 rfl 2 rfl (fun _ _ h => h) (fun _ => rfl) (by decide) (by decide) (Nat.le_of_ble_eq_true rfl) (Nat.le_of_ble_eq_true rfl) (Nat.le_of_ble_eq_true rfl) dX4_init_7 (fun a1 => ?_)
  refine g_putfF C I (T := TX4) (N := 7) (ty := (.array .char)) (w1 := [(q, .inr (3, [.ref a1, .int 0, .int 0, .null, .null, .null, .int 0]))]) (cs1 := [[(q, .inr (3, [.ref a1, .int 0, .int 0, .null, .null, .null, .int 0]))], [(a1, .inl (E.2 2, 60, .inl (fun _ => 0)))]]) 0 0 rfl rfl rfl inX4 tyX4_ok nmX4 0 (by decide) q1_159 rfl rfl (by decide +kernel) rfl rfl (Nat.le_of_ble_eq_true rfl) rfl rfl dX4_init_9 ?_
  refine g_aload_n C dX4_init_12 rfl 0 rfl ?_
  refine g_bipush C (v := 20) dX4_init_13 (by decide) ?_
  refine g_newa C (atype := .char) (ty := .char) (a0 := (20, .inl (fun _ => 0))) q1_178 rfl 2 rfl (fun _ _ h => h) (fun _ => rfl) (by decide) (by decide) (Nat.le_of_ble_eq_true rfl) (Nat.le_of_ble_eq_true rfl) (Nat.le_of_ble_eq_true rfl) dX4_init_15 (fun a2 => ?_)
  refine g_putfF C I (T := TX4) (N := 7) (ty := (.array .char)) (w1 := [(q, .inr (3, [.ref a1, .int 0, .int 0, .ref a2, .null, .null, .int 0]))]) (cs1 := [[(q, .inr (3, [.ref a1, .int 0, .int 0, .ref a2, .null, .null, .int 0]))], [(a1, .inl (E.2 2, 60, .inl (fun _ => 0)))], [(a2, .inl (E.2 2, 20, .inl (fun _ => 0)))]]) 0 0 rfl rfl rfl inX4 tyX4_ok nmX4 3 (by decide) q1_160 rfl rfl (by decide +kernel) rfl rfl (Nat.le_of_ble_eq_true rfl) rfl rfl dX4_init_17 ?_
  refine g_aload_n C dX4_init_20 rfl 0 rfl ?_
  refine g_bipush C (v := 20) dX4_init_21 (by decide) ?_
  refine g_newa C (atype := .int) (ty := .int) (a0 := (20, .inl (fun _ => 0))) q1_107 rfl 0 rfl (fun _ _ h => h) (fun _ => rfl) (by decide) (by decide) (Nat.le_of_ble_eq_true rfl) (Nat.le_of_ble_eq_true rfl) (Nat.le_of_ble_eq_true rfl) dX4_init_23 (fun a3 => ?_)
  refine g_putfF C I (T := TX4) (N := 7) (ty := (.array .int)) (w1 := [(q, .inr (3, [.ref a1, .int 0, .int 0, .ref a2, .ref a3, .null, .int 0]))]) (cs1 := [[(q, .inr (3, [.ref a1, .int 0, .int 0, .ref a2, .ref a3, .null, .int 0]))], [(a1, .inl (E.2 2, 60, .inl (fun _ => 0)))], [(a2, .inl (E.2 2, 20, .inl (fun _ => 0)))], [(a3, .inl (E.2 0, 20, .inl (fun _ => 0)))]]) 0 0 rfl rfl rfl inX4 tyX4_ok nmX4 4 (by decide) q1_161 rfl rfl (by decide +kernel) rfl rfl (Nat.le_of_ble_eq_true rfl) rfl rfl dX4_init_25 ?_
  refine g_aload_n C dX4_init_28 rfl 0 rfl ?_
  refine g_bipush C (v := 20) dX4_init_29 (by decide) ?_
  refine g_newa C (atype := .int) (ty := .int) (a0 := (20, .inl (fun _ => 0))) q1_107 rfl 0 rfl (fun _ _ h => h) (fun _ => rfl) (by decide) (by decide) (Nat.le_of_ble_eq_true rfl) (Nat.le_of_ble_eq_true rfl) (Nat.le_of_ble_eq_true rfl) dX4_init_31 (fun a4 => ?_)
  refine g_putfF C I (T := TX4) (N := 7) (ty := (.array .int)) (w1 := [(q, .inr (3, [.ref a1, .int 0, .int 0, .ref a2, .ref a3, .ref a4, .int 0]))]) (cs1 := [[(q, .inr (3, [.ref a1, .int 0, .int 0, .ref a2, .ref a3, .ref a4, .int 0]))], [(a1, .inl (E.2 2, 60, .inl (fun _ => 0)))], [(a2, .inl (E.2 2, 20, .inl (fun _ => 0)))], [(a3, .inl (E.2 0, 20, .inl (fun _ => 0)))], [(a4, .inl (E.2 0, 20, .inl (fun _ => 0)))]]) 0 0 rfl rfl rfl inX4 tyX4_ok nmX4 5 (by decide) q1_162 rfl rfl (by decide +kernel) rfl rfl (Nat.le_of_ble_eq_true rfl) rfl rfl dX4_init_33 ?_
  refine g_perm (cs1 := [wT E (fun i => [q, a1, a2, a3, a4].getD i 0) iZ]) (List.Perm.of_eq rfl) ?_
  exact g_vretN C hE ⟨fun i => [q, a1, a2, a3, a4].getD i 0, rfl, rfl⟩ dX4_init_36
theorem va_at_rowq {D : va_G} {cl : List vw_C} {a : Nat} {c : ClassId} {n : Nat} {f f1 : Nat → Option Nat} {H : Heap} (h : ∀ j, j < n → f j = f1 j) (hP : va_at D cl (a, .inl (c, n, .inr (.inr (.inr (.inr f))))) H) : va_at D cl (a, .inl (c, n, .inr (.inr (.inr (.inr f1))))) H := by
  have e : vp_cell c (n, .inr (.inr (.inr (.inr f)))) = vp_cell c (n, .inr (.inr (.inr (.inr f1)))) := by
    show arrV c n (fun j => va_rf (f j)) = arrV c n (fun j => va_rf (f1 j))
    rw [arrV, arrV]
    congr 1
    exact Array.ext (by simp) (fun i h1 h2 => by simp at h1; simp [h i h1])
  show H[a]? = some (vp_cell c (n, .inr (.inr (.inr (.inr f1)))))
  rw [← e]
  exact hP
theorem g_rowq {X : gX} {k n pc : Nat} {cs : List va_W} {lv : List (Nat × Value)} {st : List Value} {a : Nat} {c : ClassId} {z : Nat} {f : Nat → Option Nat} (f1 : Nat → Option Nat) {w w1 : va_W} {cs1 : List va_W} (ci q0 : Nat) (he : cs[ci]? = some w) (hw : w[q0]? = some (a, .inl (c, z, .inr (.inr (.inr (.inr f)))))) (h : ∀ j, j < z → f j = f1 j) (hw1 : w.set q0 (a, .inl (c, z, .inr (.inr (.inr (.inr f1))))) = w1) (hcs : cs.set ci w1 = cs1) (kk : G X k n cs1 lv pc st) : G X k n cs lv pc st := by
  obtain ⟨p, l9, e, R9, s, m, args, below, meth, c9, E9, A, Q⟩ := X
  intro H locs ls hP hD hS hl
  obtain ⟨z9, hz, hz2⟩ := g_flat he hw
  have hP2 : va_P E9.1 vwCl (cs.flatten.set z9 (a, .inl (c, z, .inr (.inr (.inr (.inr f1)))))) H := by
    intro i q hq
    rw [List.getElem?_set] at hq
    split at hq
    · split at hq
      · cases hq
        exact va_at_rowq h (hP z9 _ hz)
      · cases hq
    · exact hP i q hq
  have hD2 : va_D A (cs.flatten.set z9 (a, .inl (c, z, .inr (.inr (.inr (.inr f1)))))) := hD.set hz
  rw [hz2, hw1, hcs] at hP2 hD2
  exact kk H locs ls hP2 hD2 hS hl
set_option maxHeartbeats 8000000 in
set_option maxRecDepth 100000 in
theorem kX3_init (l : Launch) (E : gE) (q : Nat) : MN l E yX3_init cX3_init 2 115 1858 2 45 [.ref q] [[(q, .inr (2, [.null, .int 0, .int 0, .null, .null]))]] (fun cs' => ∃ (ah : Nat → Nat) (bd : Nat → Nat → Nat), ah 0 = q ∧ cs' = [wH E ah bd iZ, wB E (bd 2) iB, wB E (bd 3) iB, wB E (bd 4) iB, wB E (bd 5) iB, wB E (bd 6) iB, wB E (bd 7) iB, wB E (bd 8) iB, wB E (bd 9) iB]) := by
  refine mn_of (by decide +kernel) rfl (Nat.le_of_ble_eq_true rfl) (lv := [(0, .ref q)]) rfl (fun X C I hE => ?_)
  refine g_aload_n C dX3_init_0 rfl 0 rfl ?_
  refine g_objinit C q1_132 q1_22 q1_23 (Nat.le_of_ble_eq_true rfl) (Nat.le_of_ble_eq_true rfl) dX3_init_1 ?_
  refine g_aload_n C dX3_init_4 rfl 0 rfl ?_
  refine g_bipush C (v := 6) dX3_init_5 (by decide) ?_
  refine g_newq C I (index := 9) (N' := 6) q1_133 (by decide) (by decide) (Nat.le_of_ble_eq_true rfl) (Nat.le_of_ble_eq_true rfl) (Nat.le_of_ble_eq_true rfl) dX3_init_7 (fun a1 => ?_)
  refine g_putfF C I (T := TX3) (N := 5) (ty := (.array (.object "TicketChains$Board"))) (w1 := [(q, .inr (2, [.ref a1, .int 0, .int 0, .null, .null]))]) (cs1 := [[(q, .inr (2, [.ref a1, .int 0, .int 0, .null, .null]))], [(a1, .inl (E.2 4, 6, .inr (.inr (.inr (.inr (fun _ => none))))))]]) 0 0 rfl rfl rfl inX3 tyX3_ok nmX3 0 (by decide) q1_136 rfl rfl (by decide +kernel) rfl rfl (Nat.le_of_ble_eq_true rfl) rfl rfl dX3_init_10 ?_
  refine g_aload_n C dX3_init_13 rfl 0 rfl ?_
  refine g_iconst C (v := 2) dX3_init_14 (by decide) ?_
  refine g_newq C I (index := 9) (N' := 2) q1_133 (by decide) (by decide) (Nat.le_of_ble_eq_true rfl) (Nat.le_of_ble_eq_true rfl) (Nat.le_of_ble_eq_true rfl) dX3_init_15 (fun a2 => ?_)
  refine g_putfF C I (T := TX3) (N := 5) (ty := (.array (.object "TicketChains$Board"))) (w1 := [(q, .inr (2, [.ref a1, .int 0, .int 0, .ref a2, .null]))]) (cs1 := [[(q, .inr (2, [.ref a1, .int 0, .int 0, .ref a2, .null]))], [(a1, .inl (E.2 4, 6, .inr (.inr (.inr (.inr (fun _ => none))))))], [(a2, .inl (E.2 4, 2, .inr (.inr (.inr (.inr (fun _ => none))))))]]) 0 0 rfl rfl rfl inX3 tyX3_ok nmX3 3 (by decide) q1_139 rfl rfl (by decide +kernel) rfl rfl (Nat.le_of_ble_eq_true rfl) rfl rfl dX3_init_18 ?_
  refine g_aload_n C dX3_init_21 rfl 0 rfl ?_
  refine g_iconst C (v := 2) dX3_init_22 (by decide) ?_
  refine g_newa C (atype := .boolean) (ty := .boolean) (a0 := (2, .inl (fun _ => 0))) q1_152 rfl 1 rfl (fun _ _ h => h) (fun _ => rfl) (by decide) (by decide) (Nat.le_of_ble_eq_true rfl) (Nat.le_of_ble_eq_true rfl) (Nat.le_of_ble_eq_true rfl) dX3_init_23 (fun a3 => ?_)
  refine g_putfF C I (T := TX3) (N := 5) (ty := (.array .boolean)) (w1 := [(q, .inr (2, [.ref a1, .int 0, .int 0, .ref a2, .ref a3]))]) (cs1 := [[(q, .inr (2, [.ref a1, .int 0, .int 0, .ref a2, .ref a3]))], [(a1, .inl (E.2 4, 6, .inr (.inr (.inr (.inr (fun _ => none))))))], [(a2, .inl (E.2 4, 2, .inr (.inr (.inr (.inr (fun _ => none))))))], [(a3, .inl (E.2 1, 2, .inl (fun _ => 0)))]]) 0 0 rfl rfl rfl inX3 tyX3_ok nmX3 4 (by decide) q1_140 rfl rfl (by decide +kernel) rfl rfl (Nat.le_of_ble_eq_true rfl) rfl rfl dX3_init_25 ?_
  refine g_iconst C (v := 0) dX3_init_28 (by decide) ?_
  refine g_istore_n C (lv1 := [(1, .int 0), (0, .ref q)]) dX3_init_29 rfl (by decide) rfl ?_
  refine g_iload_n C dX3_init_30 rfl 0 rfl ?_
  refine g_bipush C (v := 6) dX3_init_31 (by decide) ?_
  refine g_icmp_ge C 55 dX3_init_33 (by decide) (fun c4 => absurd c4 (by decide)) (fun _ => ?_)
  refine g_aload_n C dX3_init_36 rfl 1 rfl ?_
  refine g_getf C (T := TX3) (N := 5) 0 0 rfl rfl rfl inX3 0 (by decide) q1_136 rfl dX3_init_37 ?_
  refine g_iload_n C dX3_init_40 rfl 0 rfl ?_
  refine g_new C (C0 := RX0) (T := TX0) (N := 17) (cix := 0) (fs := [.int 0, .int 0, .int 0, .int 0, .null, .null, .null, .null, .null, .null, .null, .null, .null, .null, .null, .null, .null]) inX0 tyX0 tyX0_ok q1_133 q1_25 q1_2 rfl dfX0 (Nat.le_of_ble_eq_true rfl) (Nat.le_of_ble_eq_true rfl) dX3_init_41 (fun a5 => ?_)
  refine g_dup C dX3_init_44 rfl ?_
  refine g_initI C I.2 4 rfl (kX0_init l E a5) q1_28 q1_2 (by decide +kernel) q1_27 rfl q1_135 ⟨Nat.le_of_ble_eq_true rfl, Nat.le_of_ble_eq_true rfl⟩ ⟨Nat.le_of_ble_eq_true rfl, Nat.le_of_ble_eq_true rfl⟩ (Nat.le_of_ble_eq_true rfl) dX3_init_45 (fun cs9 h9 => ?_)
  obtain ⟨ad6, rfl, rfl⟩ := h9
  refine g_perm (cs1 := [[(q, .inr (2, [.ref a1, .int 0, .int 0, .ref a2, .ref a3]))], [(a1, .inl (E.2 4, 6, .inr (.inr (.inr (.inr (fun _ => none))))))], [(a2, .inl (E.2 4, 2, .inr (.inr (.inr (.inr (fun _ => none))))))], [(a3, .inl (E.2 1, 2, .inl (fun _ => 0)))], wB E ad6 iB]) (List.Perm.of_eq rfl) ?_
  refine g_aast C (w1 := [(a1, .inl (E.2 4, 6, .inr (.inr (.inr (.inr (va_up (fun _ => none) 0 (some (ad6 0))))))))]) (cs1 := [[(q, .inr (2, [.ref a1, .int 0, .int 0, .ref a2, .ref a3]))], [(a1, .inl (E.2 4, 6, .inr (.inr (.inr (.inr (va_up (fun _ => none) 0 (some (ad6 0))))))))], [(a2, .inl (E.2 4, 2, .inr (.inr (.inr (.inr (fun _ => none))))))], [(a3, .inl (E.2 1, 2, .inl (fun _ => 0)))], wB E ad6 iB]) (r := (RX0, TX0, 17)) 1 0 0 rfl rfl rfl (by decide) (by decide) 4 0 rfl rfl rfl rfl rfl rfl dX3_init_48 ?_
  refine g_iinc C (v := 1) (lv1 := [(1, .int 1), (0, .ref q)]) dX3_init_49 0 rfl (by decide) (by decide) rfl ?_
  refine g_goto C 30 dX3_init_52 (by decide) ?_
  refine g_iload_n C dX3_init_30 rfl 0 rfl ?_
  refine g_bipush C (v := 6) dX3_init_31 (by decide) ?_
  refine g_icmp_ge C 55 dX3_init_33 (by decide) (fun c7 => absurd c7 (by decide)) (fun _ => ?_)
  refine g_aload_n C dX3_init_36 rfl 1 rfl ?_
  refine g_getf C (T := TX3) (N := 5) 0 0 rfl rfl rfl inX3 0 (by decide) q1_136 rfl dX3_init_37 ?_
  refine g_iload_n C dX3_init_40 rfl 0 rfl ?_
  refine g_new C (C0 := RX0) (T := TX0) (N := 17) (cix := 0) (fs := [.int 0, .int 0, .int 0, .int 0, .null, .null, .null, .null, .null, .null, .null, .null, .null, .null, .null, .null, .null]) inX0 tyX0 tyX0_ok q1_133 q1_25 q1_2 rfl dfX0 (Nat.le_of_ble_eq_true rfl) (Nat.le_of_ble_eq_true rfl) dX3_init_41 (fun a8 => ?_)
  refine g_dup C dX3_init_44 rfl ?_
  refine g_initI C I.2 5 rfl (kX0_init l E a8) q1_28 q1_2 (by decide +kernel) q1_27 rfl q1_135 ⟨Nat.le_of_ble_eq_true rfl, Nat.le_of_ble_eq_true rfl⟩ ⟨Nat.le_of_ble_eq_true rfl, Nat.le_of_ble_eq_true rfl⟩ (Nat.le_of_ble_eq_true rfl) dX3_init_45 (fun cs9 h9 => ?_)
  obtain ⟨ad9, rfl, rfl⟩ := h9
  refine g_perm (cs1 := [[(q, .inr (2, [.ref a1, .int 0, .int 0, .ref a2, .ref a3]))], [(a1, .inl (E.2 4, 6, .inr (.inr (.inr (.inr (va_up (fun _ => none) 0 (some (ad6 0))))))))], [(a2, .inl (E.2 4, 2, .inr (.inr (.inr (.inr (fun _ => none))))))], [(a3, .inl (E.2 1, 2, .inl (fun _ => 0)))], wB E ad6 iB, wB E ad9 iB]) (List.Perm.of_eq rfl) ?_
  refine g_aast C (w1 := [(a1, .inl (E.2 4, 6, .inr (.inr (.inr (.inr (va_up (va_up (fun _ => none) 0 (some (ad6 0))) 1 (some (ad9 0))))))))]) (cs1 := [[(q, .inr (2, [.ref a1, .int 0, .int 0, .ref a2, .ref a3]))], [(a1, .inl (E.2 4, 6, .inr (.inr (.inr (.inr (va_up (va_up (fun _ => none) 0 (some (ad6 0))) 1 (some (ad9 0))))))))], [(a2, .inl (E.2 4, 2, .inr (.inr (.inr (.inr (fun _ => none))))))], [(a3, .inl (E.2 1, 2, .inl (fun _ => 0)))], wB E ad6 iB, wB E ad9 iB]) (r := (RX0, TX0, 17)) 1 0 1 rfl rfl rfl (by decide) (by decide) 5 0 rfl rfl rfl rfl rfl rfl dX3_init_48 ?_
  refine g_iinc C (v := 2) (lv1 := [(1, .int 2), (0, .ref q)]) dX3_init_49 0 rfl (by decide) (by decide) rfl ?_
  refine g_goto C 30 dX3_init_52 (by decide) ?_
  refine g_iload_n C dX3_init_30 rfl 0 rfl ?_
  refine g_bipush C (v := 6) dX3_init_31 (by decide) ?_
  refine g_icmp_ge C 55 dX3_init_33 (by decide) (fun c10 => absurd c10 (by decide)) (fun _ => ?_)
  refine g_aload_n C dX3_init_36 rfl 1 rfl ?_
  refine g_getf C (T := TX3) (N := 5) 0 0 rfl rfl rfl inX3 0 (by decide) q1_136 rfl dX3_init_37 ?_
  refine g_iload_n C dX3_init_40 rfl 0 rfl ?_
  refine g_new C (C0 := RX0) (T := TX0) (N := 17) (cix := 0) (fs := [.int 0, .int 0, .int 0, .int 0, .null, .null, .null, .null, .null, .null, .null, .null, .null, .null, .null, .null, .null]) inX0 tyX0 tyX0_ok q1_133 q1_25 q1_2 rfl dfX0 (Nat.le_of_ble_eq_true rfl) (Nat.le_of_ble_eq_true rfl) dX3_init_41 (fun a11 => ?_)
  refine g_dup C dX3_init_44 rfl ?_
  refine g_initI C I.2 6 rfl (kX0_init l E a11) q1_28 q1_2 (by decide +kernel) q1_27 rfl q1_135 ⟨Nat.le_of_ble_eq_true rfl, Nat.le_of_ble_eq_true rfl⟩ ⟨Nat.le_of_ble_eq_true rfl, Nat.le_of_ble_eq_true rfl⟩ (Nat.le_of_ble_eq_true rfl) dX3_init_45 (fun cs9 h9 => ?_)
  obtain ⟨ad12, rfl, rfl⟩ := h9
  refine g_perm (cs1 := [[(q, .inr (2, [.ref a1, .int 0, .int 0, .ref a2, .ref a3]))], [(a1, .inl (E.2 4, 6, .inr (.inr (.inr (.inr (va_up (va_up (fun _ => none) 0 (some (ad6 0))) 1 (some (ad9 0))))))))], [(a2, .inl (E.2 4, 2, .inr (.inr (.inr (.inr (fun _ => none))))))], [(a3, .inl (E.2 1, 2, .inl (fun _ => 0)))], wB E ad6 iB, wB E ad9 iB, wB E ad12 iB]) (List.Perm.of_eq rfl) ?_
  refine g_aast C (w1 := [(a1, .inl (E.2 4, 6, .inr (.inr (.inr (.inr (va_up (va_up (va_up (fun _ => none) 0 (some (ad6 0))) 1 (some (ad9 0))) 2 (some (ad12 0))))))))]) (cs1 := [[(q, .inr (2, [.ref a1, .int 0, .int 0, .ref a2, .ref a3]))], [(a1, .inl (E.2 4, 6, .inr (.inr (.inr (.inr (va_up (va_up (va_up (fun _ => none) 0 (some (ad6 0))) 1 (some (ad9 0))) 2 (some (ad12 0))))))))], [(a2, .inl (E.2 4, 2, .inr (.inr (.inr (.inr (fun _ => none))))))], [(a3, .inl (E.2 1, 2, .inl (fun _ => 0)))], wB E ad6 iB, wB E ad9 iB, wB E ad12 iB]) (r := (RX0, TX0, 17)) 1 0 2 rfl rfl rfl (by decide) (by decide) 6 0 rfl rfl rfl rfl rfl rfl dX3_init_48 ?_
  refine g_iinc C (v := 3) (lv1 := [(1, .int 3), (0, .ref q)]) dX3_init_49 0 rfl (by decide) (by decide) rfl ?_
  refine g_goto C 30 dX3_init_52 (by decide) ?_
  refine g_iload_n C dX3_init_30 rfl 0 rfl ?_
  refine g_bipush C (v := 6) dX3_init_31 (by decide) ?_
  refine g_icmp_ge C 55 dX3_init_33 (by decide) (fun c13 => absurd c13 (by decide)) (fun _ => ?_)
  refine g_aload_n C dX3_init_36 rfl 1 rfl ?_
  refine g_getf C (T := TX3) (N := 5) 0 0 rfl rfl rfl inX3 0 (by decide) q1_136 rfl dX3_init_37 ?_
  refine g_iload_n C dX3_init_40 rfl 0 rfl ?_
  refine g_new C (C0 := RX0) (T := TX0) (N := 17) (cix := 0) (fs := [.int 0, .int 0, .int 0, .int 0, .null, .null, .null, .null, .null, .null, .null, .null, .null, .null, .null, .null, .null]) inX0 tyX0 tyX0_ok q1_133 q1_25 q1_2 rfl dfX0 (Nat.le_of_ble_eq_true rfl) (Nat.le_of_ble_eq_true rfl) dX3_init_41 (fun a14 => ?_)
  refine g_dup C dX3_init_44 rfl ?_
  refine g_initI C I.2 7 rfl (kX0_init l E a14) q1_28 q1_2 (by decide +kernel) q1_27 rfl q1_135 ⟨Nat.le_of_ble_eq_true rfl, Nat.le_of_ble_eq_true rfl⟩ ⟨Nat.le_of_ble_eq_true rfl, Nat.le_of_ble_eq_true rfl⟩ (Nat.le_of_ble_eq_true rfl) dX3_init_45 (fun cs9 h9 => ?_)
  obtain ⟨ad15, rfl, rfl⟩ := h9
  refine g_perm (cs1 := [[(q, .inr (2, [.ref a1, .int 0, .int 0, .ref a2, .ref a3]))], [(a1, .inl (E.2 4, 6, .inr (.inr (.inr (.inr (va_up (va_up (va_up (fun _ => none) 0 (some (ad6 0))) 1 (some (ad9 0))) 2 (some (ad12 0))))))))], [(a2, .inl (E.2 4, 2, .inr (.inr (.inr (.inr (fun _ => none))))))], [(a3, .inl (E.2 1, 2, .inl (fun _ => 0)))], wB E ad6 iB, wB E ad9 iB, wB E ad12 iB, wB E ad15 iB]) (List.Perm.of_eq rfl) ?_
  refine g_aast C (w1 := [(a1, .inl (E.2 4, 6, .inr (.inr (.inr (.inr (va_up (va_up (va_up (va_up (fun _ => none) 0 (some (ad6 0))) 1 (some (ad9 0))) 2 (some (ad12 0))) 3 (some (ad15 0))))))))]) (cs1 := [[(q, .inr (2, [.ref a1, .int 0, .int 0, .ref a2, .ref a3]))], [(a1, .inl (E.2 4, 6, .inr (.inr (.inr (.inr (va_up (va_up (va_up (va_up (fun _ => none) 0 (some (ad6 0))) 1 (some (ad9 0))) 2 (some (ad12 0))) 3 (some (ad15 0))))))))], [(a2, .inl (E.2 4, 2, .inr (.inr (.inr (.inr (fun _ => none))))))], [(a3, .inl (E.2 1, 2, .inl (fun _ => 0)))], wB E ad6 iB, wB E ad9 iB, wB E ad12 iB, wB E ad15 iB]) (r := (RX0, TX0, 17)) 1 0 3 rfl rfl rfl (by decide) (by decide) 7 0 rfl rfl rfl rfl rfl rfl dX3_init_48 ?_
  refine g_iinc C (v := 4) (lv1 := [(1, .int 4), (0, .ref q)]) dX3_init_49 0 rfl (by decide) (by decide) rfl ?_
  refine g_goto C 30 dX3_init_52 (by decide) ?_
  refine g_iload_n C dX3_init_30 rfl 0 rfl ?_
  refine g_bipush C (v := 6) dX3_init_31 (by decide) ?_
  refine g_icmp_ge C 55 dX3_init_33 (by decide) (fun c16 => absurd c16 (by decide)) (fun _ => ?_)
  refine g_aload_n C dX3_init_36 rfl 1 rfl ?_
  refine g_getf C (T := TX3) (N := 5) 0 0 rfl rfl rfl inX3 0 (by decide) q1_136 rfl dX3_init_37 ?_
  refine g_iload_n C dX3_init_40 rfl 0 rfl ?_
  refine g_new C (C0 := RX0) (T := TX0) (N := 17) (cix := 0) (fs := [.int 0, .int 0, .int 0, .int 0, .null, .null, .null, .null, .null, .null, .null, .null, .null, .null, .null, .null, .null]) inX0 tyX0 tyX0_ok q1_133 q1_25 q1_2 rfl dfX0 (Nat.le_of_ble_eq_true rfl) (Nat.le_of_ble_eq_true rfl) dX3_init_41 (fun a17 => ?_)
  refine g_dup C dX3_init_44 rfl ?_
  refine g_initI C I.2 8 rfl (kX0_init l E a17) q1_28 q1_2 (by decide +kernel) q1_27 rfl q1_135 ⟨Nat.le_of_ble_eq_true rfl, Nat.le_of_ble_eq_true rfl⟩ ⟨Nat.le_of_ble_eq_true rfl, Nat.le_of_ble_eq_true rfl⟩ (Nat.le_of_ble_eq_true rfl) dX3_init_45 (fun cs9 h9 => ?_)
  obtain ⟨ad18, rfl, rfl⟩ := h9
  refine g_perm (cs1 := [[(q, .inr (2, [.ref a1, .int 0, .int 0, .ref a2, .ref a3]))], [(a1, .inl (E.2 4, 6, .inr (.inr (.inr (.inr (va_up (va_up (va_up (va_up (fun _ => none) 0 (some (ad6 0))) 1 (some (ad9 0))) 2 (some (ad12 0))) 3 (some (ad15 0))))))))], [(a2, .inl (E.2 4, 2, .inr (.inr (.inr (.inr (fun _ => none))))))], [(a3, .inl (E.2 1, 2, .inl (fun _ => 0)))], wB E ad6 iB, wB E ad9 iB, wB E ad12 iB, wB E ad15 iB, wB E ad18 iB]) (List.Perm.of_eq rfl) ?_
  refine g_aast C (w1 := [(a1, .inl (E.2 4, 6, .inr (.inr (.inr (.inr (va_up (va_up (va_up (va_up (va_up (fun _ => none) 0 (some (ad6 0))) 1 (some (ad9 0))) 2 (some (ad12 0))) 3 (some (ad15 0))) 4 (some (ad18 0))))))))]) (cs1 := [[(q, .inr (2, [.ref a1, .int 0, .int 0, .ref a2, .ref a3]))], [(a1, .inl (E.2 4, 6, .inr (.inr (.inr (.inr (va_up (va_up (va_up (va_up (va_up (fun _ => none) 0 (some (ad6 0))) 1 (some (ad9 0))) 2 (some (ad12 0))) 3 (some (ad15 0))) 4 (some (ad18 0))))))))], [(a2, .inl (E.2 4, 2, .inr (.inr (.inr (.inr (fun _ => none))))))], [(a3, .inl (E.2 1, 2, .inl (fun _ => 0)))], wB E ad6 iB, wB E ad9 iB, wB E ad12 iB, wB E ad15 iB, wB E ad18 iB]) (r := (RX0, TX0, 17)) 1 0 4 rfl rfl rfl (by decide) (by decide) 8 0 rfl rfl rfl rfl rfl rfl dX3_init_48 ?_
  refine g_iinc C (v := 5) (lv1 := [(1, .int 5), (0, .ref q)]) dX3_init_49 0 rfl (by decide) (by decide) rfl ?_
  refine g_goto C 30 dX3_init_52 (by decide) ?_
  refine g_iload_n C dX3_init_30 rfl 0 rfl ?_
  refine g_bipush C (v := 6) dX3_init_31 (by decide) ?_
  refine g_icmp_ge C 55 dX3_init_33 (by decide) (fun c19 => absurd c19 (by decide)) (fun _ => ?_)
  refine g_aload_n C dX3_init_36 rfl 1 rfl ?_
  refine g_getf C (T := TX3) (N := 5) 0 0 rfl rfl rfl inX3 0 (by decide) q1_136 rfl dX3_init_37 ?_
  refine g_iload_n C dX3_init_40 rfl 0 rfl ?_
  refine g_new C (C0 := RX0) (T := TX0) (N := 17) (cix := 0) (fs := [.int 0, .int 0, .int 0, .int 0, .null, .null, .null, .null, .null, .null, .null, .null, .null, .null, .null, .null, .null]) inX0 tyX0 tyX0_ok q1_133 q1_25 q1_2 rfl dfX0 (Nat.le_of_ble_eq_true rfl) (Nat.le_of_ble_eq_true rfl) dX3_init_41 (fun a20 => ?_)
  refine g_dup C dX3_init_44 rfl ?_
  refine g_initI C I.2 9 rfl (kX0_init l E a20) q1_28 q1_2 (by decide +kernel) q1_27 rfl q1_135 ⟨Nat.le_of_ble_eq_true rfl, Nat.le_of_ble_eq_true rfl⟩ ⟨Nat.le_of_ble_eq_true rfl, Nat.le_of_ble_eq_true rfl⟩ (Nat.le_of_ble_eq_true rfl) dX3_init_45 (fun cs9 h9 => ?_)
  obtain ⟨ad21, rfl, rfl⟩ := h9
  refine g_perm (cs1 := [[(q, .inr (2, [.ref a1, .int 0, .int 0, .ref a2, .ref a3]))], [(a1, .inl (E.2 4, 6, .inr (.inr (.inr (.inr (va_up (va_up (va_up (va_up (va_up (fun _ => none) 0 (some (ad6 0))) 1 (some (ad9 0))) 2 (some (ad12 0))) 3 (some (ad15 0))) 4 (some (ad18 0))))))))], [(a2, .inl (E.2 4, 2, .inr (.inr (.inr (.inr (fun _ => none))))))], [(a3, .inl (E.2 1, 2, .inl (fun _ => 0)))], wB E ad6 iB, wB E ad9 iB, wB E ad12 iB, wB E ad15 iB, wB E ad18 iB, wB E ad21 iB]) (List.Perm.of_eq rfl) ?_
  refine g_aast C (w1 := [(a1, .inl (E.2 4, 6, .inr (.inr (.inr (.inr (va_up (va_up (va_up (va_up (va_up (va_up (fun _ => none) 0 (some (ad6 0))) 1 (some (ad9 0))) 2 (some (ad12 0))) 3 (some (ad15 0))) 4 (some (ad18 0))) 5 (some (ad21 0))))))))]) (cs1 := [[(q, .inr (2, [.ref a1, .int 0, .int 0, .ref a2, .ref a3]))], [(a1, .inl (E.2 4, 6, .inr (.inr (.inr (.inr (va_up (va_up (va_up (va_up (va_up (va_up (fun _ => none) 0 (some (ad6 0))) 1 (some (ad9 0))) 2 (some (ad12 0))) 3 (some (ad15 0))) 4 (some (ad18 0))) 5 (some (ad21 0))))))))], [(a2, .inl (E.2 4, 2, .inr (.inr (.inr (.inr (fun _ => none))))))], [(a3, .inl (E.2 1, 2, .inl (fun _ => 0)))], wB E ad6 iB, wB E ad9 iB, wB E ad12 iB, wB E ad15 iB, wB E ad18 iB, wB E ad21 iB]) (r := (RX0, TX0, 17)) 1 0 5 rfl rfl rfl (by decide) (by decide) 9 0 rfl rfl rfl rfl rfl rfl dX3_init_48 ?_
  refine g_iinc C (v := 6) (lv1 := [(1, .int 6), (0, .ref q)]) dX3_init_49 0 rfl (by decide) (by decide) rfl ?_
  refine g_goto C 30 dX3_init_52 (by decide) ?_
  refine g_iload_n C dX3_init_30 rfl 0 rfl ?_
  refine g_bipush C (v := 6) dX3_init_31 (by decide) ?_
  refine g_icmp_ge C 55 dX3_init_33 (by decide) (fun _ => ?_) (fun c22 => absurd (by decide) c22)
  refine g_iconst C (v := 0) dX3_init_55 (by decide) ?_
  refine g_istore_n C (lv1 := [(1, .int 0), (0, .ref q)]) dX3_init_56 rfl (by decide) rfl ?_
  refine g_iload_n C dX3_init_57 rfl 0 rfl ?_
  refine g_iconst C (v := 2) dX3_init_58 (by decide) ?_
  refine g_icmp_ge C 81 dX3_init_59 (by decide) (fun c23 => absurd c23 (by decide)) (fun _ => ?_)
  refine g_aload_n C dX3_init_62 rfl 1 rfl ?_
  refine g_getf C (T := TX3) (N := 5) 0 0 rfl rfl rfl inX3 3 (by decide) q1_139 rfl dX3_init_63 ?_
  refine g_iload_n C dX3_init_66 rfl 0 rfl ?_
  refine g_new C (C0 := RX0) (T := TX0) (N := 17) (cix := 0) (fs := [.int 0, .int 0, .int 0, .int 0, .null, .null, .null, .null, .null, .null, .null, .null, .null, .null, .null, .null, .null]) inX0 tyX0 tyX0_ok q1_133 q1_25 q1_2 rfl dfX0 (Nat.le_of_ble_eq_true rfl) (Nat.le_of_ble_eq_true rfl) dX3_init_67 (fun a24 => ?_)
  refine g_dup C dX3_init_70 rfl ?_
  refine g_initI C I.2 10 rfl (kX0_init l E a24) q1_28 q1_2 (by decide +kernel) q1_27 rfl q1_135 ⟨Nat.le_of_ble_eq_true rfl, Nat.le_of_ble_eq_true rfl⟩ ⟨Nat.le_of_ble_eq_true rfl, Nat.le_of_ble_eq_true rfl⟩ (Nat.le_of_ble_eq_true rfl) dX3_init_71 (fun cs9 h9 => ?_)
  obtain ⟨ad25, rfl, rfl⟩ := h9
  refine g_perm (cs1 := [[(q, .inr (2, [.ref a1, .int 0, .int 0, .ref a2, .ref a3]))], [(a1, .inl (E.2 4, 6, .inr (.inr (.inr (.inr (va_up (va_up (va_up (va_up (va_up (va_up (fun _ => none) 0 (some (ad6 0))) 1 (some (ad9 0))) 2 (some (ad12 0))) 3 (some (ad15 0))) 4 (some (ad18 0))) 5 (some (ad21 0))))))))], [(a2, .inl (E.2 4, 2, .inr (.inr (.inr (.inr (fun _ => none))))))], [(a3, .inl (E.2 1, 2, .inl (fun _ => 0)))], wB E ad6 iB, wB E ad9 iB, wB E ad12 iB, wB E ad15 iB, wB E ad18 iB, wB E ad21 iB, wB E ad25 iB]) (List.Perm.of_eq rfl) ?_
  refine g_aast C (w1 := [(a2, .inl (E.2 4, 2, .inr (.inr (.inr (.inr (va_up (fun _ => none) 0 (some (ad25 0))))))))]) (cs1 := [[(q, .inr (2, [.ref a1, .int 0, .int 0, .ref a2, .ref a3]))], [(a1, .inl (E.2 4, 6, .inr (.inr (.inr (.inr (va_up (va_up (va_up (va_up (va_up (va_up (fun _ => none) 0 (some (ad6 0))) 1 (some (ad9 0))) 2 (some (ad12 0))) 3 (some (ad15 0))) 4 (some (ad18 0))) 5 (some (ad21 0))))))))], [(a2, .inl (E.2 4, 2, .inr (.inr (.inr (.inr (va_up (fun _ => none) 0 (some (ad25 0))))))))], [(a3, .inl (E.2 1, 2, .inl (fun _ => 0)))], wB E ad6 iB, wB E ad9 iB, wB E ad12 iB, wB E ad15 iB, wB E ad18 iB, wB E ad21 iB, wB E ad25 iB]) (r := (RX0, TX0, 17)) 2 0 0 rfl rfl rfl (by decide) (by decide) 10 0 rfl rfl rfl rfl rfl rfl dX3_init_74 ?_
  refine g_iinc C (v := 1) (lv1 := [(1, .int 1), (0, .ref q)]) dX3_init_75 0 rfl (by decide) (by decide) rfl ?_
  refine g_goto C 57 dX3_init_78 (by decide) ?_
  refine g_iload_n C dX3_init_57 rfl 0 rfl ?_
  refine g_iconst C (v := 2) dX3_init_58 (by decide) ?_
  refine g_icmp_ge C 81 dX3_init_59 (by decide) (fun c26 => absurd c26 (by decide)) (fun _ => ?_)
  refine g_aload_n C dX3_init_62 rfl 1 rfl ?_
  refine g_getf C (T := TX3) (N := 5) 0 0 rfl rfl rfl inX3 3 (by decide) q1_139 rfl dX3_init_63 ?_
  refine g_iload_n C dX3_init_66 rfl 0 rfl ?_
  refine g_new C (C0 := RX0) (T := TX0) (N := 17) (cix := 0) (fs := [.int 0, .int 0, .int 0, .int 0, .null, .null, .null, .null, .null, .null, .null, .null, .null, .null, .null, .null, .null]) inX0 tyX0 tyX0_ok q1_133 q1_25 q1_2 rfl dfX0 (Nat.le_of_ble_eq_true rfl) (Nat.le_of_ble_eq_true rfl) dX3_init_67 (fun a27 => ?_)
  refine g_dup C dX3_init_70 rfl ?_
  refine g_initI C I.2 11 rfl (kX0_init l E a27) q1_28 q1_2 (by decide +kernel) q1_27 rfl q1_135 ⟨Nat.le_of_ble_eq_true rfl, Nat.le_of_ble_eq_true rfl⟩ ⟨Nat.le_of_ble_eq_true rfl, Nat.le_of_ble_eq_true rfl⟩ (Nat.le_of_ble_eq_true rfl) dX3_init_71 (fun cs9 h9 => ?_)
  obtain ⟨ad28, rfl, rfl⟩ := h9
  refine g_perm (cs1 := [[(q, .inr (2, [.ref a1, .int 0, .int 0, .ref a2, .ref a3]))], [(a1, .inl (E.2 4, 6, .inr (.inr (.inr (.inr (va_up (va_up (va_up (va_up (va_up (va_up (fun _ => none) 0 (some (ad6 0))) 1 (some (ad9 0))) 2 (some (ad12 0))) 3 (some (ad15 0))) 4 (some (ad18 0))) 5 (some (ad21 0))))))))], [(a2, .inl (E.2 4, 2, .inr (.inr (.inr (.inr (va_up (fun _ => none) 0 (some (ad25 0))))))))], [(a3, .inl (E.2 1, 2, .inl (fun _ => 0)))], wB E ad6 iB, wB E ad9 iB, wB E ad12 iB, wB E ad15 iB, wB E ad18 iB, wB E ad21 iB, wB E ad25 iB, wB E ad28 iB]) (List.Perm.of_eq rfl) ?_
  refine g_aast C (w1 := [(a2, .inl (E.2 4, 2, .inr (.inr (.inr (.inr (va_up (va_up (fun _ => none) 0 (some (ad25 0))) 1 (some (ad28 0))))))))]) (cs1 := [[(q, .inr (2, [.ref a1, .int 0, .int 0, .ref a2, .ref a3]))], [(a1, .inl (E.2 4, 6, .inr (.inr (.inr (.inr (va_up (va_up (va_up (va_up (va_up (va_up (fun _ => none) 0 (some (ad6 0))) 1 (some (ad9 0))) 2 (some (ad12 0))) 3 (some (ad15 0))) 4 (some (ad18 0))) 5 (some (ad21 0))))))))], [(a2, .inl (E.2 4, 2, .inr (.inr (.inr (.inr (va_up (va_up (fun _ => none) 0 (some (ad25 0))) 1 (some (ad28 0))))))))], [(a3, .inl (E.2 1, 2, .inl (fun _ => 0)))], wB E ad6 iB, wB E ad9 iB, wB E ad12 iB, wB E ad15 iB, wB E ad18 iB, wB E ad21 iB, wB E ad25 iB, wB E ad28 iB]) (r := (RX0, TX0, 17)) 2 0 1 rfl rfl rfl (by decide) (by decide) 11 0 rfl rfl rfl rfl rfl rfl dX3_init_74 ?_
  refine g_iinc C (v := 2) (lv1 := [(1, .int 2), (0, .ref q)]) dX3_init_75 0 rfl (by decide) (by decide) rfl ?_
  refine g_goto C 57 dX3_init_78 (by decide) ?_
  refine g_iload_n C dX3_init_57 rfl 0 rfl ?_
  refine g_iconst C (v := 2) dX3_init_58 (by decide) ?_
  refine g_icmp_ge C 81 dX3_init_59 (by decide) (fun _ => ?_) (fun c29 => absurd (by decide) c29)
  refine g_rowq (fun i => some (((fun k => [ad6, ad9, ad12, ad15, ad18, ad21, ad25, ad28].getD (k - 2) ad6) (2 + i)) 0)) (w1 := [(a1, .inl (E.2 4, 6, .inr (.inr (.inr (.inr (fun i => some (((fun k => [ad6, ad9, ad12, ad15, ad18, ad21, ad25, ad28].getD (k - 2) ad6) (2 + i)) 0)))))))]) (cs1 := [[(q, .inr (2, [.ref a1, .int 0, .int 0, .ref a2, .ref a3]))], [(a1, .inl (E.2 4, 6, .inr (.inr (.inr (.inr (fun i => some (((fun k => [ad6, ad9, ad12, ad15, ad18, ad21, ad25, ad28].getD (k - 2) ad6) (2 + i)) 0)))))))], [(a2, .inl (E.2 4, 2, .inr (.inr (.inr (.inr (va_up (va_up (fun _ => none) 0 (some (ad25 0))) 1 (some (ad28 0))))))))], [(a3, .inl (E.2 1, 2, .inl (fun _ => 0)))], wB E ad6 iB, wB E ad9 iB, wB E ad12 iB, wB E ad15 iB, wB E ad18 iB, wB E ad21 iB, wB E ad25 iB, wB E ad28 iB]) 1 0 rfl rfl (by intro j hj; rcases (show j = 0 ∨ j = 1 ∨ j = 2 ∨ j = 3 ∨ j = 4 ∨ j = 5 by omega) with rfl | rfl | rfl | rfl | rfl | rfl <;> rfl) rfl rfl ?_
  refine g_rowq (fun i => some (((fun k => [ad6, ad9, ad12, ad15, ad18, ad21, ad25, ad28].getD (k - 2) ad6) (8 + i)) 0)) (w1 := [(a2, .inl (E.2 4, 2, .inr (.inr (.inr (.inr (fun i => some (((fun k => [ad6, ad9, ad12, ad15, ad18, ad21, ad25, ad28].getD (k - 2) ad6) (8 + i)) 0)))))))]) (cs1 := [[(q, .inr (2, [.ref a1, .int 0, .int 0, .ref a2, .ref a3]))], [(a1, .inl (E.2 4, 6, .inr (.inr (.inr (.inr (fun i => some (((fun k => [ad6, ad9, ad12, ad15, ad18, ad21, ad25, ad28].getD (k - 2) ad6) (2 + i)) 0)))))))], [(a2, .inl (E.2 4, 2, .inr (.inr (.inr (.inr (fun i => some (((fun k => [ad6, ad9, ad12, ad15, ad18, ad21, ad25, ad28].getD (k - 2) ad6) (8 + i)) 0)))))))], [(a3, .inl (E.2 1, 2, .inl (fun _ => 0)))], wB E ad6 iB, wB E ad9 iB, wB E ad12 iB, wB E ad15 iB, wB E ad18 iB, wB E ad21 iB, wB E ad25 iB, wB E ad28 iB]) 2 0 rfl rfl (by intro j hj; rcases (show j = 0 ∨ j = 1 by omega) with rfl | rfl <;> rfl) rfl rfl ?_
  refine g_perm (cs1 := [wH E (fun i => [q, a1, a2, a3].getD i 0) (fun k => [ad6, ad9, ad12, ad15, ad18, ad21, ad25, ad28].getD (k - 2) ad6) iZ, wB E ((fun k => [ad6, ad9, ad12, ad15, ad18, ad21, ad25, ad28].getD (k - 2) ad6) 2) iB, wB E ((fun k => [ad6, ad9, ad12, ad15, ad18, ad21, ad25, ad28].getD (k - 2) ad6) 3) iB, wB E ((fun k => [ad6, ad9, ad12, ad15, ad18, ad21, ad25, ad28].getD (k - 2) ad6) 4) iB, wB E ((fun k => [ad6, ad9, ad12, ad15, ad18, ad21, ad25, ad28].getD (k - 2) ad6) 5) iB, wB E ((fun k => [ad6, ad9, ad12, ad15, ad18, ad21, ad25, ad28].getD (k - 2) ad6) 6) iB, wB E ((fun k => [ad6, ad9, ad12, ad15, ad18, ad21, ad25, ad28].getD (k - 2) ad6) 7) iB, wB E ((fun k => [ad6, ad9, ad12, ad15, ad18, ad21, ad25, ad28].getD (k - 2) ad6) 8) iB, wB E ((fun k => [ad6, ad9, ad12, ad15, ad18, ad21, ad25, ad28].getD (k - 2) ad6) 9) iB]) (List.Perm.of_eq rfl) ?_
  exact g_vretN C hE ⟨fun i => [q, a1, a2, a3].getD i 0, fun k => [ad6, ad9, ad12, ad15, ad18, ad21, ad25, ad28].getD (k - 2) ad6, rfl, rfl⟩ dX3_init_81

set_option maxHeartbeats 8000000 in
set_option maxRecDepth 100000 in
theorem kX6_init (l : Launch) (E : gE) (q : Nat) : MN l E yX6_init cX6_init 1 154 2536 3 66 [.ref q] [[(q, .inr (4, [.null, .null, .null, .null, .null]))]] (fun cs' => ∃ (bo tr ac ah : Nat → Nat) (bd : Nat → Nat → Nat) (at_ : Nat → Nat), cs' = [wX q (bo 0) (tr 0) (ac 0) (ah 0) (at_ 0), wB E bo iB, wB E tr iB, wC E ac iZ, wH E ah bd iZ, wT E at_ iZ, wB E (bd 2) iB, wB E (bd 3) iB, wB E (bd 4) iB, wB E (bd 5) iB, wB E (bd 6) iB, wB E (bd 7) iB, wB E (bd 8) iB, wB E (bd 9) iB]) := by
  refine mn_of (by decide +kernel) rfl (Nat.le_of_ble_eq_true rfl) (lv := [(0, .ref q)]) rfl (fun X C I hE => ?_)
  refine g_aload_n C dX6_init_0 rfl 0 rfl ?_
  refine g_objinit C q1_21 q1_22 q1_23 (Nat.le_of_ble_eq_true rfl) (Nat.le_of_ble_eq_true rfl) dX6_init_1 ?_
  refine g_aload_n C dX6_init_4 rfl 0 rfl ?_
  refine g_new C (C0 := RX0) (T := TX0) (N := 17) (cix := 0) (fs := [.int 0, .int 0, .int 0, .int 0, .null, .null, .null, .null, .null, .null, .null, .null, .null, .null, .null, .null, .null]) inX0 tyX0 tyX0_ok q1_24 q1_25 q1_2 rfl dfX0 (Nat.le_of_ble_eq_true rfl) (Nat.le_of_ble_eq_true rfl) dX6_init_5 (fun a1 => ?_)
  refine g_dup C dX6_init_8 rfl ?_
  refine g_initI C I.2 1 rfl (kX0_init l E a1) q1_28 q1_2 (by decide +kernel) q1_27 rfl q1_26 ⟨Nat.le_of_ble_eq_true rfl, Nat.le_of_ble_eq_true rfl⟩ ⟨Nat.le_of_ble_eq_true rfl, Nat.le_of_ble_eq_true rfl⟩ (Nat.le_of_ble_eq_true rfl) dX6_init_9 (fun cs9 h9 => ?_)
  obtain ⟨ad2, rfl, rfl⟩ := h9
  refine g_perm (cs1 := [[(q, .inr (4, [.null, .null, .null, .null, .null]))], wB E ad2 iB]) (List.Perm.of_eq rfl) ?_
  refine g_putfF C I (T := TX6) (N := 5) (ty := (.object "TicketChains$Board")) (w1 := [(q, .inr (4, [.ref (ad2 0), .null, .null, .null, .null]))]) (cs1 := [[(q, .inr (4, [.ref (ad2 0), .null, .null, .null, .null]))], wB E ad2 iB]) 0 0 rfl rfl rfl inX6 tyX6_ok nmX6 0 (by decide) q1_179 rfl rfl (by decide +kernel) rfl rfl (Nat.le_of_ble_eq_true rfl) rfl rfl dX6_init_12 ?_
  refine g_aload_n C dX6_init_15 rfl 0 rfl ?_
  refine g_new C (C0 := RX0) (T := TX0) (N := 17) (cix := 0) (fs := [.int 0, .int 0, .int 0, .int 0, .null, .null, .null, .null, .null, .null, .null, .null, .null, .null, .null, .null, .null]) inX0 tyX0 tyX0_ok q1_24 q1_25 q1_2 rfl dfX0 (Nat.le_of_ble_eq_true rfl) (Nat.le_of_ble_eq_true rfl) dX6_init_16 (fun a3 => ?_)
  refine g_dup C dX6_init_19 rfl ?_
  refine g_initI C I.2 2 rfl (kX0_init l E a3) q1_28 q1_2 (by decide +kernel) q1_27 rfl q1_26 ⟨Nat.le_of_ble_eq_true rfl, Nat.le_of_ble_eq_true rfl⟩ ⟨Nat.le_of_ble_eq_true rfl, Nat.le_of_ble_eq_true rfl⟩ (Nat.le_of_ble_eq_true rfl) dX6_init_20 (fun cs9 h9 => ?_)
  obtain ⟨ad4, rfl, rfl⟩ := h9
  refine g_perm (cs1 := [[(q, .inr (4, [.ref (ad2 0), .null, .null, .null, .null]))], wB E ad2 iB, wB E ad4 iB]) (List.Perm.of_eq rfl) ?_
  refine g_putfF C I (T := TX6) (N := 5) (ty := (.object "TicketChains$Board")) (w1 := [(q, .inr (4, [.ref (ad2 0), .ref (ad4 0), .null, .null, .null]))]) (cs1 := [[(q, .inr (4, [.ref (ad2 0), .ref (ad4 0), .null, .null, .null]))], wB E ad2 iB, wB E ad4 iB]) 0 0 rfl rfl rfl inX6 tyX6_ok nmX6 1 (by decide) q1_180 rfl rfl (by decide +kernel) rfl rfl (Nat.le_of_ble_eq_true rfl) rfl rfl dX6_init_23 ?_
  refine g_aload_n C dX6_init_26 rfl 0 rfl ?_
  refine g_new C (C0 := RX1) (T := TX1) (N := 4) (cix := 1) (fs := [.null, .null, .null, .null]) inX1 tyX1 tyX1_ok q1_108 q1_109 q1_3 rfl dfX1 (Nat.le_of_ble_eq_true rfl) (Nat.le_of_ble_eq_true rfl) dX6_init_27 (fun a5 => ?_)
  refine g_dup C dX6_init_30 rfl ?_
  refine g_initN C I.2 3 rfl (kX1_init l E a5) q1_112 q1_3 (by decide +kernel) q1_111 rfl (host := RX6) (by decide +kernel) ⟨Nat.le_of_ble_eq_true rfl, Nat.le_of_ble_eq_true rfl⟩ ⟨Nat.le_of_ble_eq_true rfl, Nat.le_of_ble_eq_true rfl⟩ (Nat.le_of_ble_eq_true rfl) dX6_init_31 (fun cs9 h9 => ?_)
  obtain ⟨ad6, rfl, rfl⟩ := h9
  refine g_perm (cs1 := [[(q, .inr (4, [.ref (ad2 0), .ref (ad4 0), .null, .null, .null]))], wB E ad2 iB, wB E ad4 iB, wC E ad6 iZ]) (List.Perm.of_eq rfl) ?_
  refine g_putfF C I (T := TX6) (N := 5) (ty := (.object "TicketChains$Chains")) (w1 := [(q, .inr (4, [.ref (ad2 0), .ref (ad4 0), .ref (ad6 0), .null, .null]))]) (cs1 := [[(q, .inr (4, [.ref (ad2 0), .ref (ad4 0), .ref (ad6 0), .null, .null]))], wB E ad2 iB, wB E ad4 iB, wC E ad6 iZ]) 0 0 rfl rfl rfl inX6 tyX6_ok nmX6 2 (by decide) q1_181 rfl rfl (by decide +kernel) rfl rfl (Nat.le_of_ble_eq_true rfl) rfl rfl dX6_init_34 ?_
  refine g_aload_n C dX6_init_37 rfl 0 rfl ?_
  refine g_new C (C0 := RX3) (T := TX3) (N := 5) (cix := 2) (fs := [.null, .int 0, .int 0, .null, .null]) inX3 tyX3 tyX3_ok q1_127 q1_128 q1_4 rfl dfX3 (Nat.le_of_ble_eq_true rfl) (Nat.le_of_ble_eq_true rfl) dX6_init_38 (fun a7 => ?_)
  refine g_dup C dX6_init_41 rfl ?_
  refine g_initI C I.2 4 rfl (kX3_init l E a7) q1_131 q1_4 (by decide +kernel) q1_130 rfl q1_129 ⟨Nat.le_of_ble_eq_true rfl, Nat.le_of_ble_eq_true rfl⟩ ⟨Nat.le_of_ble_eq_true rfl, Nat.le_of_ble_eq_true rfl⟩ (Nat.le_of_ble_eq_true rfl) dX6_init_42 (fun cs9 h9 => ?_)
  obtain ⟨ad8, bd9, rfl, rfl⟩ := h9
  refine g_perm (cs1 := [[(q, .inr (4, [.ref (ad2 0), .ref (ad4 0), .ref (ad6 0), .null, .null]))], wB E ad2 iB, wB E ad4 iB, wC E ad6 iZ, wH E ad8 bd9 iZ, wB E (bd9 2) iB, wB E (bd9 3) iB, wB E (bd9 4) iB, wB E (bd9 5) iB, wB E (bd9 6) iB, wB E (bd9 7) iB, wB E (bd9 8) iB, wB E (bd9 9) iB]) (List.Perm.of_eq rfl) ?_
  refine g_putfF C I (T := TX6) (N := 5) (ty := (.object "TicketChains$History")) (w1 := [(q, .inr (4, [.ref (ad2 0), .ref (ad4 0), .ref (ad6 0), .ref (ad8 0), .null]))]) (cs1 := [[(q, .inr (4, [.ref (ad2 0), .ref (ad4 0), .ref (ad6 0), .ref (ad8 0), .null]))], wB E ad2 iB, wB E ad4 iB, wC E ad6 iZ, wH E ad8 bd9 iZ, wB E (bd9 2) iB, wB E (bd9 3) iB, wB E (bd9 4) iB, wB E (bd9 5) iB, wB E (bd9 6) iB, wB E (bd9 7) iB, wB E (bd9 8) iB, wB E (bd9 9) iB]) 0 0 rfl rfl rfl inX6 tyX6_ok nmX6 3 (by decide) q1_182 rfl rfl (by decide +kernel) rfl rfl (Nat.le_of_ble_eq_true rfl) rfl rfl dX6_init_45 ?_
  refine g_aload_n C dX6_init_48 rfl 0 rfl ?_
  refine g_new C (C0 := RX4) (T := TX4) (N := 7) (cix := 3) (fs := [.null, .int 0, .int 0, .null, .null, .null, .int 0]) inX4 tyX4 tyX4_ok q1_153 q1_154 q1_5 rfl dfX4 (Nat.le_of_ble_eq_true rfl) (Nat.le_of_ble_eq_true rfl) dX6_init_49 (fun a10 => ?_)
  refine g_dup C dX6_init_52 rfl ?_
  refine g_initN C I.2 13 rfl (kX4_init l E a10) q1_157 q1_5 (by decide +kernel) q1_156 rfl (host := RX6) (by decide +kernel) ⟨Nat.le_of_ble_eq_true rfl, Nat.le_of_ble_eq_true rfl⟩ ⟨Nat.le_of_ble_eq_true rfl, Nat.le_of_ble_eq_true rfl⟩ (Nat.le_of_ble_eq_true rfl) dX6_init_53 (fun cs9 h9 => ?_)
  obtain ⟨ad11, rfl, rfl⟩ := h9
  refine g_perm (cs1 := [[(q, .inr (4, [.ref (ad2 0), .ref (ad4 0), .ref (ad6 0), .ref (ad8 0), .null]))], wB E ad2 iB, wB E ad4 iB, wC E ad6 iZ, wH E ad8 bd9 iZ, wB E (bd9 2) iB, wB E (bd9 3) iB, wB E (bd9 4) iB, wB E (bd9 5) iB, wB E (bd9 6) iB, wB E (bd9 7) iB, wB E (bd9 8) iB, wB E (bd9 9) iB, wT E ad11 iZ]) (List.Perm.of_eq rfl) ?_
  refine g_putfF C I (T := TX6) (N := 5) (ty := (.object "TicketChains$OrderText")) (w1 := [(q, .inr (4, [.ref (ad2 0), .ref (ad4 0), .ref (ad6 0), .ref (ad8 0), .ref (ad11 0)]))]) (cs1 := [[(q, .inr (4, [.ref (ad2 0), .ref (ad4 0), .ref (ad6 0), .ref (ad8 0), .ref (ad11 0)]))], wB E ad2 iB, wB E ad4 iB, wC E ad6 iZ, wH E ad8 bd9 iZ, wB E (bd9 2) iB, wB E (bd9 3) iB, wB E (bd9 4) iB, wB E (bd9 5) iB, wB E (bd9 6) iB, wB E (bd9 7) iB, wB E (bd9 8) iB, wB E (bd9 9) iB, wT E ad11 iZ]) 0 0 rfl rfl rfl inX6 tyX6_ok nmX6 4 (by decide) q1_183 rfl rfl (by decide +kernel) rfl rfl (Nat.le_of_ble_eq_true rfl) rfl rfl dX6_init_56 ?_
  refine g_perm (cs1 := [wX q (ad2 0) (ad4 0) (ad6 0) (ad8 0) (ad11 0), wB E ad2 iB, wB E ad4 iB, wC E ad6 iZ, wH E ad8 bd9 iZ, wT E ad11 iZ, wB E (bd9 2) iB, wB E (bd9 3) iB, wB E (bd9 4) iB, wB E (bd9 5) iB, wB E (bd9 6) iB, wB E (bd9 7) iB, wB E (bd9 8) iB, wB E (bd9 9) iB]) ((List.Perm.append_left [wX q (ad2 0) (ad4 0) (ad6 0) (ad8 0) (ad11 0), wB E ad2 iB, wB E ad4 iB, wC E ad6 iZ, wH E ad8 bd9 iZ] (List.perm_append_comm (l₁ := [wB E (bd9 2) iB, wB E (bd9 3) iB, wB E (bd9 4) iB, wB E (bd9 5) iB, wB E (bd9 6) iB, wB E (bd9 7) iB, wB E (bd9 8) iB, wB E (bd9 9) iB]) (l₂ := [wT E ad11 iZ]))).flatten) ?_
  exact g_vretN C hE ⟨ad2, ad4, ad6, ad8, bd9, ad11, rfl⟩ dX6_init_59
/-- a new reference -/
def iM : BS := (fun _ => 0, fun k => if k = 0 then upd (upd (upd (upd (upd (upd (upd (upd (upd (fun _ => 0) 4 20) 5 20) 6 20) 7 20) 8 20) 9 10) 10 20) 11 30) 12 40 else fun _ => 0)
