theorem vM_wl {μ : BS} {v : Int32} (h : vM μ) (e : v = b2i (i2b v)) : vM (sI μ 4 v) := ⟨h.1, h.2.1, h.2.2.1, h.2.2.2.1, h.2.2.2.2.1, e, h.2.2.2.2.2.2⟩
theorem vM_wlb {μ : BS} {b : Bool} (h : vM μ) : vM (sI μ 4 (b2i b)) := vM_wl h (by rw [i2b_b2i])
theorem vM_at {μ : BS} {v : Int32} {n : Nat} (h : vM μ) (e : v = nI n) (hn : n ≤ 60) : vM (sI μ 3 v) := by
  refine ⟨h.1, h.2.1, h.2.2.1, ?_, ?_, h.2.2.2.2.2⟩
  · show v.toNatClampNeg ≤ 60
    rw [e, nI_clamp (by omega)]
    exact hn
  · show v = nI v.toNatClampNeg
    rw [e, nI_clamp (by omega)]
theorem vM_at1 {μ ν : BS} (h : vM ν) (e : ν.1 3 = μ.1 3) (hn : ta μ < 60) (h3 : μ.1 3 = nI (ta μ)) : vM (sI ν 3 (μ.1 3 + 1)) := vM_at h (nx_add (b := 1) h3 rfl) (by omega)
theorem vM_at0 {μ ν : BS} (h : vM ν) (e : ν.1 3 = μ.1 3) (h0 : ta μ ≤ 60) (h3 : μ.1 3 = nI (ta μ)) : vM (sI ν 3 (μ.1 3 + 0)) := vM_at h (nx_add (b := 0) h3 rfl) (by omega)
theorem vM_rd {μ : BS} {v : Int32} {i : Nat} (h : vM μ) (hi : 3 * rm μ ≤ i) : vM (sE μ 6 i v) := by
  refine ⟨h.1, h.2.1, h.2.2.1, h.2.2.2.1, h.2.2.2.2.1, h.2.2.2.2.2.1, h.2.2.2.2.2.2.1, h.2.2.2.2.2.2.2.1, fun k hk => ?_⟩
  have hk' : k < rm μ := hk
  have e1 : (sE μ 6 i v).2 6 (3 * k) = μ.2 6 (3 * k) := pk_un (f := μ.2 6) (by omega)
  have e2 : (sE μ 6 i v).2 6 (3 * k + 2) = μ.2 6 (3 * k + 2) := pk_un (f := μ.2 6) (by omega)
  rw [e1, e2]
  exact h.2.2.2.2.2.2.2.2 k hk'
def fX7_sign (μ : BS) : Int32 :=
  if (μ.1 2) ≤ (μ.1 3) then 0 else μ.2 5 (ta μ)
theorem caX7_sign : gCalV yX7_sign cX7_sign 1 (some .int) 0 := ⟨⟨q7_83, q1_6, by decide +kernel⟩, q7_82, qs_44⟩
set_option maxHeartbeats 4000000 in
set_option maxRecDepth 100000 in
theorem kX7_sign (l : Launch) (E : gE) (am : Nat → Nat) (μ : BS) (hv : vM μ)   : MC l E yX7_sign cX7_sign 1 (some .int) 0 0 [.ref (am 0)] [wM E am μ] (some (.int (fX7_sign μ))) [wM E am μ] := by
  have hv1 : cM μ ≤ 20 := hv.1.1
  have hc0 : μ.2 0 0 = nI (cM μ) := hv.1.2.1
  have ht3 := hv.2.2.2.2.1
  have ht0 := hv.2.2.2.1
  have hl2 := hv.2.2.1.2
  have hl0 := hv.2.2.1.1
  refine mc_of (by decide +kernel) (Nat.le_of_ble_eq_true rfl) (lv := [(0, .ref (am 0))]) rfl (fun X C hE => ?_)
  refine g_aload_n C dX7_sign_0 rfl 0 rfl ?_
  refine g_getf C (v := .int (μ.1 3)) (T := TX7) (N := 15) 0 0 rfl rfl rfl inX7 9 (by decide) q6_79 rfl dX7_sign_1 ?_
  refine g_aload_n C dX7_sign_4 rfl 0 rfl ?_
  refine g_getf C (v := .int (μ.1 2)) (T := TX7) (N := 15) 0 0 rfl rfl rfl inX7 8 (by decide) q6_78 rfl dX7_sign_5 ?_
  refine g_icmp_ge C 23 dX7_sign_8 (by decide) (fun c_1 => ?_) (fun c_1 => ?_)
  · skip
    refine g_iconst C (v := 0) dX7_sign_23 (by decide) ?_
    have e_2 : fX7_sign μ = 0 := by rw [fX7_sign]; rw [if_pos c_1]
    exact g_iret C hE (by rw [e_2]) rfl dX7_sign_24
  · skip
    have hs9 := lc_ige ht3 hl2 (by omega) (by omega) c_1
    refine g_aload_n C dX7_sign_11 rfl 0 rfl ?_
    refine g_getf C (T := TX7) (N := 15) 0 0 rfl rfl rfl inX7 7 (by decide) q6_77 rfl dX7_sign_12 ?_
    refine g_aload_n C dX7_sign_15 rfl 0 rfl ?_
    refine g_getf C (v := .int (μ.1 3)) (T := TX7) (N := 15) 0 0 rfl rfl rfl inX7 9 (by decide) q6_79 rfl dX7_sign_16 ?_
    refine g_ialdn C 0 6 (ta μ) rfl rfl ht3 (by omega) (by decide) dX7_sign_19 ?_
    refine g_goto C 24 dX7_sign_20 (by decide) ?_
    have e_3 : fX7_sign μ = μ.2 5 (ta μ) := by rw [fX7_sign]; rw [if_neg c_1]
    exact g_iret C hE (by rw [e_3]) rfl dX7_sign_24
theorem sign_z {μ : BS} (hv : vM μ) (h : ¬ fX7_sign μ = 0) : ta μ < tl μ := by
  have ht3 := hv.2.2.2.2.1
  have ht0 := hv.2.2.2.1
  have hl2 := hv.2.2.1.2
  have hl0 := hv.2.2.1.1
  rcases Nat.lt_or_ge (ta μ) (tl μ) with c | c
  · exact c
  · exact absurd (by rw [fX7_sign, if_pos (lc_le ht3 hl2 c (by omega))]) h
theorem sign_lt {μ : BS} {a b : Int32} (hv : vM μ) (h0 : 0 < a) (h : fX7_in (fX7_sign μ) a b = true) : ta μ < 60 := by
  have h1 := sign_z hv (fun e => by
    rw [e, fX7_in, if_pos h0] at h
    cases h)
  have hl0 := hv.2.2.1.1
  omega
theorem sign_lo {μ : BS} (hv : vM μ) (h : fX7_isOrder (fX7_sign μ) = true) : ta μ < 60 := by
  have h1 := sign_z hv (fun e => by
    rw [e] at h
    exact absurd h (by decide))
  have hl0 := hv.2.2.1.1
  omega
theorem sign_lv {μ : BS} {v : Int32} (hv : vM μ) (h : fX7_sign μ = v) (h0 : ¬ v = 0) : ta μ < 60 := by
  have h1 := sign_z hv (fun e => h0 (h.symm.trans e))
  have hl0 := hv.2.2.1.1
  omega
def fX7_reads (μ : BS) (a : Int32) (b : Int32) : Int32 × BS :=
  if (μ.1 4) = 0 then ((fX7_sign (sI μ 4 0)) - 48, sI (sI μ 4 0) 3 ((μ.1 3) + 0)) else (if (fX7_in (fX7_sign μ) a b) = true then ((fX7_sign (sI μ 4 1)) - 48, sI (sI μ 4 1) 3 ((μ.1 3) + 1)) else ((fX7_sign (sI μ 4 0)) - 48, sI (sI μ 4 0) 3 ((μ.1 3) + 0)))
theorem caX7_reads : gCalV yX7_reads cX7_reads 4 (some .int) 2 := ⟨⟨q7_94, q1_6, by decide +kernel⟩, q7_93, qs_46⟩
set_option maxHeartbeats 4000000 in
set_option maxRecDepth 100000 in
theorem kX7_reads (l : Launch) (E : gE) (am : Nat → Nat) (μ : BS) (hv : vM μ)  (a : Int32) (b : Int32) (h0a : 0 < a) : MC l E yX7_reads cX7_reads 4 (some .int) 1 22 [.ref (am 0), .int a, .int b] [wM E am μ] (some (.int (fX7_reads μ a b).1)) [wM E am ((fX7_reads μ a b).2)] := by
  have hv1 : cM μ ≤ 20 := hv.1.1
  have hc0 : μ.2 0 0 = nI (cM μ) := hv.1.2.1
  have ht3 := hv.2.2.2.2.1
  have ht0 := hv.2.2.2.1
  have hl2 := hv.2.2.1.2
  have hl0 := hv.2.2.1.1
  refine mc_of (by decide +kernel) (Nat.le_of_ble_eq_true rfl) (lv := [(0, .ref (am 0)), (1, .int a), (2, .int b)]) rfl (fun X C hE => ?_)
  refine g_aload_n C dX7_reads_0 rfl 0 rfl ?_
  refine g_aload_n C dX7_reads_1 rfl 0 rfl ?_
  refine g_getf C (v := .int (μ.1 4)) (T := TX7) (N := 15) 0 0 rfl rfl rfl inX7 10 (by decide) q6_80 rfl dX7_reads_2 ?_
  refine g_if_eq C 24 dX7_reads_5 (by decide) (fun c_1 => ?_) (fun c_1 => ?_)
  · skip
    refine g_iconst C (v := 0) dX7_reads_24 (by decide) ?_
    refine g_putf C (T := TX7) (N := 15) (ty := .boolean) (w1 := wM E am (sI μ 4 0)) (cs1 := [wM E am (sI μ 4 0)]) 0 0 rfl rfl rfl inX7 tyX7_ok nmX7 10 (by decide) q6_80 rfl (by decide +kernel) (nar_b2i false) (fit_b2i false) (Nat.le_of_ble_eq_true rfl) rfl rfl dX7_reads_25 ?_
    refine g_aload_n C dX7_reads_28 rfl 0 rfl ?_
    refine g_callV C (cs1 := [wM E am (sI μ 4 0)]) (st1 := [.int (fX7_sign (sI μ 4 0))]) [] [0] (kX7_sign l E am (sI μ 4 0) (vM_wl hv rfl)) caX7_sign q7_80 rfl ⟨Nat.le_of_ble_eq_true rfl, Nat.le_of_ble_eq_true rfl⟩ ⟨Nat.zero_le _, Nat.zero_le _⟩ 0 0 rfl rfl rfl rfl (by decide) rfl rfl rfl rfl (Nat.le_of_ble_eq_true rfl) dX7_reads_29 rfl ?_
    refine g_bipush C (v := 48) dX7_reads_32 (by decide) ?_
    refine g_isub C dX7_reads_34 ?_
    refine g_istore_n C (lv1 := [(3, .int ((fX7_sign (sI μ 4 0)) - 48)), (0, .ref (am 0)), (1, .int a), (2, .int b)]) dX7_reads_35 rfl (by decide) rfl ?_
    refine g_aload_n C dX7_reads_36 rfl 1 rfl ?_
    refine g_dup C dX7_reads_37 rfl ?_
    refine g_getf C (v := .int (μ.1 3)) (T := TX7) (N := 15) 0 0 rfl rfl rfl inX7 9 (by decide) q6_79 rfl dX7_reads_38 ?_
    refine g_aload_n C dX7_reads_41 rfl 1 rfl ?_
    refine g_getf C (v := .int 0) (T := TX7) (N := 15) 0 0 rfl rfl rfl inX7 10 (by decide) q6_80 rfl dX7_reads_42 ?_
    refine g_if_eq C 52 dX7_reads_45 (by decide) (fun c_2 => ?_) (fun c_2 => ?_)
    · skip
      refine g_iconst C (v := 0) dX7_reads_52 (by decide) ?_
      refine g_iadd C dX7_reads_53 ?_
      refine g_putf C (T := TX7) (N := 15) (ty := .int) (w1 := wM E am (sI (sI μ 4 0) 3 ((μ.1 3) + 0))) (cs1 := [wM E am (sI (sI μ 4 0) 3 ((μ.1 3) + 0))]) 0 0 rfl rfl rfl inX7 tyX7_ok nmX7 9 (by decide) q6_79 rfl (by decide +kernel) rfl rfl (Nat.le_of_ble_eq_true rfl) rfl rfl dX7_reads_54 ?_
      refine g_iload_n C dX7_reads_57 rfl 0 rfl ?_
      have e_3 : fX7_reads μ a b = ((fX7_sign (sI μ 4 0)) - 48, sI (sI μ 4 0) 3 ((μ.1 3) + 0)) := by rw [fX7_reads]; rw [if_pos c_1]
      exact g_iret C hE (by rw [e_3]) (by rw [e_3]) dX7_reads_58
    · exact absurd (by decide) c_2
  · skip
    refine g_aload_n C dX7_reads_8 rfl 0 rfl ?_
    refine g_callV C (cs1 := [wM E am μ]) (st1 := [.int (fX7_sign μ), .ref (am 0)]) [] [0] (kX7_sign l E am μ hv) caX7_sign q7_80 rfl ⟨Nat.le_of_ble_eq_true rfl, Nat.le_of_ble_eq_true rfl⟩ ⟨Nat.zero_le _, Nat.zero_le _⟩ 0 0 rfl rfl rfl rfl (by decide) rfl rfl rfl rfl (Nat.le_of_ble_eq_true rfl) dX7_reads_9 rfl ?_
    refine g_iload_n C dX7_reads_12 rfl 1 rfl ?_
    refine g_iload_n C dX7_reads_13 rfl 2 rfl ?_
    refine g_callS C (cs1 := [wM E am μ]) (st1 := [.int (b2i (fX7_in (fX7_sign μ) a b)), .ref (am 0)]) [.int (fX7_sign μ), .int a, .int b] [] (kX7_in l E (fX7_sign μ) a b) caX7_in q6_124 rfl ⟨Nat.le_of_ble_eq_true rfl, Nat.le_of_ble_eq_true rfl⟩ ⟨Nat.zero_le _, Nat.zero_le _⟩ (by decide) rfl rfl rfl rfl (Nat.le_of_ble_eq_true rfl) dX7_reads_14 rfl ?_
    refine g_ifB_eq C 24 dX7_reads_17 (by decide) (fun c_4 => ?_) (fun c_4 => ?_)
    · skip
      refine g_iconst C (v := 0) dX7_reads_24 (by decide) ?_
      refine g_putf C (T := TX7) (N := 15) (ty := .boolean) (w1 := wM E am (sI μ 4 0)) (cs1 := [wM E am (sI μ 4 0)]) 0 0 rfl rfl rfl inX7 tyX7_ok nmX7 10 (by decide) q6_80 rfl (by decide +kernel) (nar_b2i false) (fit_b2i false) (Nat.le_of_ble_eq_true rfl) rfl rfl dX7_reads_25 ?_
      refine g_aload_n C dX7_reads_28 rfl 0 rfl ?_
      refine g_callV C (cs1 := [wM E am (sI μ 4 0)]) (st1 := [.int (fX7_sign (sI μ 4 0))]) [] [0] (kX7_sign l E am (sI μ 4 0) (vM_wl hv rfl)) caX7_sign q7_80 rfl ⟨Nat.le_of_ble_eq_true rfl, Nat.le_of_ble_eq_true rfl⟩ ⟨Nat.zero_le _, Nat.zero_le _⟩ 0 0 rfl rfl rfl rfl (by decide) rfl rfl rfl rfl (Nat.le_of_ble_eq_true rfl) dX7_reads_29 rfl ?_
      refine g_bipush C (v := 48) dX7_reads_32 (by decide) ?_
      refine g_isub C dX7_reads_34 ?_
      refine g_istore_n C (lv1 := [(3, .int ((fX7_sign (sI μ 4 0)) - 48)), (0, .ref (am 0)), (1, .int a), (2, .int b)]) dX7_reads_35 rfl (by decide) rfl ?_
      refine g_aload_n C dX7_reads_36 rfl 1 rfl ?_
      refine g_dup C dX7_reads_37 rfl ?_
      refine g_getf C (v := .int (μ.1 3)) (T := TX7) (N := 15) 0 0 rfl rfl rfl inX7 9 (by decide) q6_79 rfl dX7_reads_38 ?_
      refine g_aload_n C dX7_reads_41 rfl 1 rfl ?_
      refine g_getf C (v := .int 0) (T := TX7) (N := 15) 0 0 rfl rfl rfl inX7 10 (by decide) q6_80 rfl dX7_reads_42 ?_
      refine g_if_eq C 52 dX7_reads_45 (by decide) (fun c_5 => ?_) (fun c_5 => ?_)
      · skip
        refine g_iconst C (v := 0) dX7_reads_52 (by decide) ?_
        refine g_iadd C dX7_reads_53 ?_
        refine g_putf C (T := TX7) (N := 15) (ty := .int) (w1 := wM E am (sI (sI μ 4 0) 3 ((μ.1 3) + 0))) (cs1 := [wM E am (sI (sI μ 4 0) 3 ((μ.1 3) + 0))]) 0 0 rfl rfl rfl inX7 tyX7_ok nmX7 9 (by decide) q6_79 rfl (by decide +kernel) rfl rfl (Nat.le_of_ble_eq_true rfl) rfl rfl dX7_reads_54 ?_
        refine g_iload_n C dX7_reads_57 rfl 0 rfl ?_
        have e_6 : fX7_reads μ a b = ((fX7_sign (sI μ 4 0)) - 48, sI (sI μ 4 0) 3 ((μ.1 3) + 0)) := by rw [fX7_reads]; rw [if_neg c_1, if_neg (ne_true_of_eq_false c_4)]
        exact g_iret C hE (by rw [e_6]) (by rw [e_6]) dX7_reads_58
      · exact absurd (by decide) c_5
    · skip
      have hs9 := sign_lt hv h0a c_4
      refine g_iconst C (v := 1) dX7_reads_20 (by decide) ?_
      refine g_goto C 25 dX7_reads_21 (by decide) ?_
      refine g_putf C (T := TX7) (N := 15) (ty := .boolean) (w1 := wM E am (sI μ 4 1)) (cs1 := [wM E am (sI μ 4 1)]) 0 0 rfl rfl rfl inX7 tyX7_ok nmX7 10 (by decide) q6_80 rfl (by decide +kernel) (nar_b2i true) (fit_b2i true) (Nat.le_of_ble_eq_true rfl) rfl rfl dX7_reads_25 ?_
      refine g_aload_n C dX7_reads_28 rfl 0 rfl ?_
      refine g_callV C (cs1 := [wM E am (sI μ 4 1)]) (st1 := [.int (fX7_sign (sI μ 4 1))]) [] [0] (kX7_sign l E am (sI μ 4 1) (vM_wl hv rfl)) caX7_sign q7_80 rfl ⟨Nat.le_of_ble_eq_true rfl, Nat.le_of_ble_eq_true rfl⟩ ⟨Nat.zero_le _, Nat.zero_le _⟩ 0 0 rfl rfl rfl rfl (by decide) rfl rfl rfl rfl (Nat.le_of_ble_eq_true rfl) dX7_reads_29 rfl ?_
      refine g_bipush C (v := 48) dX7_reads_32 (by decide) ?_
      refine g_isub C dX7_reads_34 ?_
      refine g_istore_n C (lv1 := [(3, .int ((fX7_sign (sI μ 4 1)) - 48)), (0, .ref (am 0)), (1, .int a), (2, .int b)]) dX7_reads_35 rfl (by decide) rfl ?_
      refine g_aload_n C dX7_reads_36 rfl 1 rfl ?_
      refine g_dup C dX7_reads_37 rfl ?_
      refine g_getf C (v := .int (μ.1 3)) (T := TX7) (N := 15) 0 0 rfl rfl rfl inX7 9 (by decide) q6_79 rfl dX7_reads_38 ?_
      refine g_aload_n C dX7_reads_41 rfl 1 rfl ?_
      refine g_getf C (v := .int 1) (T := TX7) (N := 15) 0 0 rfl rfl rfl inX7 10 (by decide) q6_80 rfl dX7_reads_42 ?_
      refine g_if_eq C 52 dX7_reads_45 (by decide) (fun c_7 => ?_) (fun c_7 => ?_)
      · exact absurd c_7 (by decide)
      · skip
        refine g_iconst C (v := 1) dX7_reads_48 (by decide) ?_
        refine g_goto C 53 dX7_reads_49 (by decide) ?_
        refine g_iadd C dX7_reads_53 ?_
        refine g_putf C (T := TX7) (N := 15) (ty := .int) (w1 := wM E am (sI (sI μ 4 1) 3 ((μ.1 3) + 1))) (cs1 := [wM E am (sI (sI μ 4 1) 3 ((μ.1 3) + 1))]) 0 0 rfl rfl rfl inX7 tyX7_ok nmX7 9 (by decide) q6_79 rfl (by decide +kernel) rfl rfl (Nat.le_of_ble_eq_true rfl) rfl rfl dX7_reads_54 ?_
        refine g_iload_n C dX7_reads_57 rfl 0 rfl ?_
        have e_8 : fX7_reads μ a b = ((fX7_sign (sI μ 4 1)) - 48, sI (sI μ 4 1) 3 ((μ.1 3) + 1)) := by rw [fX7_reads]; rw [if_neg c_1, if_pos c_4]
        exact g_iret C hE (by rw [e_8]) (by rw [e_8]) dX7_reads_58
theorem in_int {v a b : Int32} (h : fX7_in v a b = true) : a.toInt ≤ v.toInt ∧ v.toInt ≤ b.toInt := by
  unfold fX7_in at h
  split at h
  · cases h
  · rename_i c1
    split at h
    · cases h
    · rename_i c2
      exact ⟨Int32.le_iff_toInt_le.mp (Int32.not_lt.mp c1), Int32.le_iff_toInt_le.mp (Int32.not_lt.mp c2)⟩
/-- reading one sign: whether it is well afterwards -/
def rW (μ : BS) (a b : Int32) : Bool := i2b (μ.1 4) && fX7_in (fX7_sign μ) a b
theorem sign_wl (μ : BS) (v : Int32) : fX7_sign (sI μ 4 v) = fX7_sign μ := rfl
theorem i2b_0 {x : Int32} (h : x = 0) : i2b x = false := by rw [h]; rfl
theorem i2b_n {x : Int32} (h : ¬ x = 0) : i2b x = true := by
  unfold i2b
  rw [show (x == 0) = false from beq_eq_false_iff_ne.mpr h]
  rfl
theorem reads_eq (μ : BS) (a b : Int32) : fX7_reads μ a b = (fX7_sign μ - 48, sI (sI μ 4 (b2i (rW μ a b))) 3 (μ.1 3 + b2i (rW μ a b))) := by
  unfold fX7_reads rW
  split
  · rename_i h
    rw [i2b_0 h]
    rfl
  · rename_i h
    rw [i2b_n h]
    split
    · rename_i h2
      rw [h2]
      rfl
    · rename_i h2
      rw [show fX7_in (fX7_sign μ) a b = false from by cases h3 : fX7_in (fX7_sign μ) a b with | true => exact absurd h3 h2 | false => rfl]
      rfl
theorem rW_lt {μ : BS} {a b : Int32} (hv : vM μ) (h0 : 0 < a) (h : rW μ a b = true) : ta μ < 60 := by
  unfold rW at h
  rw [Bool.and_eq_true] at h
  exact sign_lt hv h0 h.2
theorem vM_reads {μ : BS} {a b : Int32} (hv : vM μ) (h0 : 0 < a) : vM (fX7_reads μ a b).2 := by
  rw [reads_eq]
  cases h : rW μ a b with
  | false => exact vM_at (vM_wl hv rfl) (nx_add hv.2.2.2.2.1 (rfl : b2i false = nI 0)) hv.2.2.2.1
  | true => exact vM_at (vM_wl hv rfl) (nx_add hv.2.2.2.2.1 (rfl : b2i true = nI 1)) (rW_lt hv h0 h)
/-- what a reading does: the place goes on, at least twice as far as orders are read -/
def RD (μ ν : BS) : Prop := vM ν ∧ (ν.1 0 = μ.1 0 ∧ ν.1 1 = μ.1 1 ∧ ν.1 2 = μ.1 2 ∧ ∀ j, j ≠ 6 → ν.2 j = μ.2 j) ∧ ta μ ≤ ta ν ∧ 2 * rm ν + ta μ ≤ 2 * rm μ + ta ν
theorem ta_at {μ : BS} {v : Int32} {n : Nat} (e : v = nI n) (hn : n < 100) : ta (sI μ 3 v) = n := by
  show v.toNatClampNeg = n
  rw [e, nI_clamp (by omega)]
theorem ta_reads {μ : BS} {a b : Int32} (hv : vM μ) : ta (fX7_reads μ a b).2 = ta μ + (rW μ a b).toNat := by
  have h1 := hv.2.2.2.1
  rw [reads_eq]
  cases h : rW μ a b with
  | false =>
    show _ = ta μ + 0
    exact ta_at (nx_add hv.2.2.2.2.1 (rfl : b2i false = nI 0)) (by omega)
  | true =>
    show _ = ta μ + 1
    exact ta_at (nx_add hv.2.2.2.2.1 (rfl : b2i true = nI 1)) (by omega)
theorem reads_5 (μ : BS) (a b : Int32) : (fX7_reads μ a b).2.1 5 = μ.1 5 := by rw [reads_eq]; rfl
theorem reads_fr (μ : BS) (a b : Int32) : (fX7_reads μ a b).2.1 0 = μ.1 0 ∧ (fX7_reads μ a b).2.1 1 = μ.1 1 ∧ (fX7_reads μ a b).2.1 2 = μ.1 2 ∧ (fX7_reads μ a b).2.2 = μ.2 := by rw [reads_eq]; exact ⟨rfl, rfl, rfl, rfl⟩
theorem reads_4 (μ : BS) (a b : Int32) : (fX7_reads μ a b).2.1 4 = b2i (rW μ a b) := by rw [reads_eq]; rfl
theorem RD_reads {μ : BS} {a b : Int32} (hv : vM μ) (h0 : 0 < a) : RD μ (fX7_reads μ a b).2 := by
  obtain ⟨f0, f1, f2, f3⟩ := reads_fr μ a b
  have e : rm (fX7_reads μ a b).2 = rm μ := congrArg Int32.toNatClampNeg (reads_5 μ a b)
  refine ⟨vM_reads hv h0, ⟨f0, f1, f2, fun j _ => congrFun f3 j⟩, ?_, ?_⟩
  · rw [ta_reads hv]
    omega
  · rw [ta_reads hv, e]
    omega
def fX7_number (μ : BS) (a : Int32) (c : Int32) : Int32 × BS :=
  if 9 ≤ c then (if (((fX7_reads μ (48 + a) 57).2).1 4) = 0 then ((fX7_reads μ (48 + a) 57).1, (fX7_reads μ (48 + a) 57).2) else (if ((fX7_reads μ (48 + a) 57).1) ≤ 0 then ((fX7_reads μ (48 + a) 57).1, (fX7_reads μ (48 + a) 57).2) else (if (fX7_in (fX7_sign ((fX7_reads μ (48 + a) 57).2)) 48 57) = true then (if c < (((10 * ((fX7_reads μ (48 + a) 57).1)) + (fX7_sign ((fX7_reads μ (48 + a) 57).2))) - 48) then ((fX7_reads μ (48 + a) 57).1, (fX7_reads μ (48 + a) 57).2) else (((10 * ((fX7_reads μ (48 + a) 57).1)) + (fX7_sign ((fX7_reads μ (48 + a) 57).2))) - 48, sI ((fX7_reads μ (48 + a) 57).2) 3 ((((fX7_reads μ (48 + a) 57).2).1 3) + 1))) else ((fX7_reads μ (48 + a) 57).1, (fX7_reads μ (48 + a) 57).2)))) else (if (((fX7_reads μ (48 + a) (48 + c)).2).1 4) = 0 then ((fX7_reads μ (48 + a) (48 + c)).1, (fX7_reads μ (48 + a) (48 + c)).2) else (if ((fX7_reads μ (48 + a) (48 + c)).1) ≤ 0 then ((fX7_reads μ (48 + a) (48 + c)).1, (fX7_reads μ (48 + a) (48 + c)).2) else (if (fX7_in (fX7_sign ((fX7_reads μ (48 + a) (48 + c)).2)) 48 57) = true then (if c < (((10 * ((fX7_reads μ (48 + a) (48 + c)).1)) + (fX7_sign ((fX7_reads μ (48 + a) (48 + c)).2))) - 48) then ((fX7_reads μ (48 + a) (48 + c)).1, (fX7_reads μ (48 + a) (48 + c)).2) else (((10 * ((fX7_reads μ (48 + a) (48 + c)).1)) + (fX7_sign ((fX7_reads μ (48 + a) (48 + c)).2))) - 48, sI ((fX7_reads μ (48 + a) (48 + c)).2) 3 ((((fX7_reads μ (48 + a) (48 + c)).2).1 3) + 1))) else ((fX7_reads μ (48 + a) (48 + c)).1, (fX7_reads μ (48 + a) (48 + c)).2))))
theorem caX7_number : gCalV yX7_number cX7_number 4 (some .int) 2 := ⟨⟨q7_90, q1_6, by decide +kernel⟩, q7_89, qs_45⟩
set_option maxHeartbeats 4000000 in
set_option maxRecDepth 100000 in
theorem kX7_number (l : Launch) (E : gE) (am : Nat → Nat) (μ : BS) (hv : vM μ)  (a : Int32) (c : Int32) (h0n : 0 < 48 + a) : MC l E yX7_number cX7_number 4 (some .int) 2 45 [.ref (am 0), .int a, .int c] [wM E am μ] (some (.int (fX7_number μ a c).1)) [wM E am ((fX7_number μ a c).2)] := by
  have hv1 : cM μ ≤ 20 := hv.1.1
  have hc0 : μ.2 0 0 = nI (cM μ) := hv.1.2.1
  have ht3 := hv.2.2.2.2.1
  have ht0 := hv.2.2.2.1
  have hl2 := hv.2.2.1.2
  have hl0 := hv.2.2.1.1
  refine mc_of (by decide +kernel) (Nat.le_of_ble_eq_true rfl) (lv := [(0, .ref (am 0)), (1, .int a), (2, .int c)]) rfl (fun X C hE => ?_)
  refine g_aload_n C dX7_number_0 rfl 0 rfl ?_
  refine g_bipush C (v := 48) dX7_number_1 (by decide) ?_
  refine g_iload_n C dX7_number_3 rfl 1 rfl ?_
  refine g_iadd C dX7_number_4 ?_
  refine g_iload_n C dX7_number_5 rfl 2 rfl ?_
  refine g_bipush C (v := 9) dX7_number_6 (by decide) ?_
  refine g_icmp_ge C 18 dX7_number_8 (by decide) (fun c_1 => ?_) (fun c_1 => ?_)
  · skip
    refine g_bipush C (v := 57) dX7_number_18 (by decide) ?_
    refine g_callV C (cs1 := [wM E am ((fX7_reads μ (48 + a) 57).2)]) (st1 := [.int ((fX7_reads μ (48 + a) 57).1)]) [.int (48 + a), .int 57] [0] (kX7_reads l E am μ hv (48 + a) 57 h0n) caX7_reads q7_91 rfl ⟨Nat.le_of_ble_eq_true rfl, Nat.le_of_ble_eq_true rfl⟩ ⟨Nat.zero_le _, Nat.zero_le _⟩ 0 0 rfl rfl rfl rfl (by decide) rfl rfl rfl rfl (Nat.le_of_ble_eq_true rfl) dX7_number_20 rfl ?_
    refine g_istore_n C (lv1 := [(3, .int ((fX7_reads μ (48 + a) 57).1)), (0, .ref (am 0)), (1, .int a), (2, .int c)]) dX7_number_23 rfl (by decide) rfl ?_
    refine g_aload_n C dX7_number_24 rfl 1 rfl ?_
    refine g_getf C (v := .int (((fX7_reads μ (48 + a) 57).2).1 4)) (T := TX7) (N := 15) 0 0 rfl rfl rfl inX7 10 (by decide) q6_80 rfl dX7_number_25 ?_
    refine g_if_eq C 88 dX7_number_28 (by decide) (fun c_2 => ?_) (fun c_2 => ?_)
    · skip
      refine g_iload_n C dX7_number_88 rfl 0 rfl ?_
      have e_3 : fX7_number μ a c = ((fX7_reads μ (48 + a) 57).1, (fX7_reads μ (48 + a) 57).2) := by rw [fX7_number]; rw [if_pos c_1, if_pos c_2]
      exact g_iret C hE (by rw [e_3]) (by rw [e_3]) dX7_number_89
    · skip
      refine g_iload_n C dX7_number_31 rfl 0 rfl ?_
      refine g_if_le C 88 dX7_number_32 (by decide) (fun c_4 => ?_) (fun c_4 => ?_)
      · skip
        refine g_iload_n C dX7_number_88 rfl 0 rfl ?_
        have e_5 : fX7_number μ a c = ((fX7_reads μ (48 + a) 57).1, (fX7_reads μ (48 + a) 57).2) := by rw [fX7_number]; rw [if_pos c_1, if_neg c_2, if_pos c_4]
        exact g_iret C hE (by rw [e_5]) (by rw [e_5]) dX7_number_89
      · skip
        refine g_aload_n C dX7_number_35 rfl 1 rfl ?_
        refine g_callV C (cs1 := [wM E am ((fX7_reads μ (48 + a) 57).2)]) (st1 := [.int (fX7_sign ((fX7_reads μ (48 + a) 57).2))]) [] [0] (kX7_sign l E am ((fX7_reads μ (48 + a) 57).2) (vM_reads hv h0n)) caX7_sign q7_80 rfl ⟨Nat.le_of_ble_eq_true rfl, Nat.le_of_ble_eq_true rfl⟩ ⟨Nat.zero_le _, Nat.zero_le _⟩ 0 0 rfl rfl rfl rfl (by decide) rfl rfl rfl rfl (Nat.le_of_ble_eq_true rfl) dX7_number_36 rfl ?_
        refine g_bipush C (v := 48) dX7_number_39 (by decide) ?_
        refine g_bipush C (v := 57) dX7_number_41 (by decide) ?_
        refine g_callS C (cs1 := [wM E am ((fX7_reads μ (48 + a) 57).2)]) (st1 := [.int (b2i (fX7_in (fX7_sign ((fX7_reads μ (48 + a) 57).2)) 48 57))]) [.int (fX7_sign ((fX7_reads μ (48 + a) 57).2)), .int 48, .int 57] [] (kX7_in l E (fX7_sign ((fX7_reads μ (48 + a) 57).2)) 48 57) caX7_in q6_124 rfl ⟨Nat.le_of_ble_eq_true rfl, Nat.le_of_ble_eq_true rfl⟩ ⟨Nat.zero_le _, Nat.zero_le _⟩ (by decide) rfl rfl rfl rfl (Nat.le_of_ble_eq_true rfl) dX7_number_43 rfl ?_
        refine g_ifB_eq C 88 dX7_number_46 (by decide) (fun c_6 => ?_) (fun c_6 => ?_)
        · skip
          refine g_iload_n C dX7_number_88 rfl 0 rfl ?_
          have e_7 : fX7_number μ a c = ((fX7_reads μ (48 + a) 57).1, (fX7_reads μ (48 + a) 57).2) := by rw [fX7_number]; rw [if_pos c_1, if_neg c_2, if_neg c_4, if_neg (ne_true_of_eq_false c_6)]
          exact g_iret C hE (by rw [e_7]) (by rw [e_7]) dX7_number_89
        · skip
          have hs9 := sign_lt (vM_reads hv h0n) (by decide) c_6
          refine g_bipush C (v := 10) dX7_number_49 (by decide) ?_
          refine g_iload_n C dX7_number_51 rfl 0 rfl ?_
          refine g_imul C dX7_number_52 ?_
          refine g_aload_n C dX7_number_53 rfl 1 rfl ?_
          refine g_callV C (cs1 := [wM E am ((fX7_reads μ (48 + a) 57).2)]) (st1 := [.int (fX7_sign ((fX7_reads μ (48 + a) 57).2)), .int (10 * ((fX7_reads μ (48 + a) 57).1))]) [] [0] (kX7_sign l E am ((fX7_reads μ (48 + a) 57).2) (vM_reads hv h0n)) caX7_sign q7_80 rfl ⟨Nat.le_of_ble_eq_true rfl, Nat.le_of_ble_eq_true rfl⟩ ⟨Nat.zero_le _, Nat.zero_le _⟩ 0 0 rfl rfl rfl rfl (by decide) rfl rfl rfl rfl (Nat.le_of_ble_eq_true rfl) dX7_number_54 rfl ?_
          refine g_iadd C dX7_number_57 ?_
          refine g_bipush C (v := 48) dX7_number_58 (by decide) ?_
          refine g_isub C dX7_number_60 ?_
          refine g_iload_n C dX7_number_61 rfl 3 rfl ?_
          refine g_icmp_gt C 88 dX7_number_62 (by decide) (fun c_8 => ?_) (fun c_8 => ?_)
          · skip
            refine g_iload_n C dX7_number_88 rfl 0 rfl ?_
            have e_9 : fX7_number μ a c = ((fX7_reads μ (48 + a) 57).1, (fX7_reads μ (48 + a) 57).2) := by rw [fX7_number]; rw [if_pos c_1, if_neg c_2, if_neg c_4, if_pos c_6, if_pos c_8]
            exact g_iret C hE (by rw [e_9]) (by rw [e_9]) dX7_number_89
          · skip
            refine g_bipush C (v := 10) dX7_number_65 (by decide) ?_
            refine g_iload_n C dX7_number_67 rfl 0 rfl ?_
            refine g_imul C dX7_number_68 ?_
            refine g_aload_n C dX7_number_69 rfl 1 rfl ?_
            refine g_callV C (cs1 := [wM E am ((fX7_reads μ (48 + a) 57).2)]) (st1 := [.int (fX7_sign ((fX7_reads μ (48 + a) 57).2)), .int (10 * ((fX7_reads μ (48 + a) 57).1))]) [] [0] (kX7_sign l E am ((fX7_reads μ (48 + a) 57).2) (vM_reads hv h0n)) caX7_sign q7_80 rfl ⟨Nat.le_of_ble_eq_true rfl, Nat.le_of_ble_eq_true rfl⟩ ⟨Nat.zero_le _, Nat.zero_le _⟩ 0 0 rfl rfl rfl rfl (by decide) rfl rfl rfl rfl (Nat.le_of_ble_eq_true rfl) dX7_number_70 rfl ?_
            refine g_iadd C dX7_number_73 ?_
            refine g_bipush C (v := 48) dX7_number_74 (by decide) ?_
            refine g_isub C dX7_number_76 ?_
            refine g_istore_n C (lv1 := [(3, .int (((10 * ((fX7_reads μ (48 + a) 57).1)) + (fX7_sign ((fX7_reads μ (48 + a) 57).2))) - 48)), (0, .ref (am 0)), (1, .int a), (2, .int c)]) dX7_number_77 rfl (by decide) rfl ?_
            refine g_aload_n C dX7_number_78 rfl 1 rfl ?_
            refine g_dup C dX7_number_79 rfl ?_
            refine g_getf C (v := .int (((fX7_reads μ (48 + a) 57).2).1 3)) (T := TX7) (N := 15) 0 0 rfl rfl rfl inX7 9 (by decide) q6_79 rfl dX7_number_80 ?_
            refine g_iconst C (v := 1) dX7_number_83 (by decide) ?_
            refine g_iadd C dX7_number_84 ?_
            refine g_putf C (T := TX7) (N := 15) (ty := .int) (w1 := wM E am (sI ((fX7_reads μ (48 + a) 57).2) 3 ((((fX7_reads μ (48 + a) 57).2).1 3) + 1))) (cs1 := [wM E am (sI ((fX7_reads μ (48 + a) 57).2) 3 ((((fX7_reads μ (48 + a) 57).2).1 3) + 1))]) 0 0 rfl rfl rfl inX7 tyX7_ok nmX7 9 (by decide) q6_79 rfl (by decide +kernel) rfl rfl (Nat.le_of_ble_eq_true rfl) rfl rfl dX7_number_85 ?_
            refine g_iload_n C dX7_number_88 rfl 0 rfl ?_
            have e_10 : fX7_number μ a c = (((10 * ((fX7_reads μ (48 + a) 57).1)) + (fX7_sign ((fX7_reads μ (48 + a) 57).2))) - 48, sI ((fX7_reads μ (48 + a) 57).2) 3 ((((fX7_reads μ (48 + a) 57).2).1 3) + 1)) := by rw [fX7_number]; rw [if_pos c_1, if_neg c_2, if_neg c_4, if_pos c_6, if_neg c_8]
            exact g_iret C hE (by rw [e_10]) (by rw [e_10]) dX7_number_89
  · skip
    refine g_bipush C (v := 48) dX7_number_11 (by decide) ?_
    refine g_iload_n C dX7_number_13 rfl 2 rfl ?_
    refine g_iadd C dX7_number_14 ?_
    refine g_goto C 20 dX7_number_15 (by decide) ?_
    refine g_callV C (cs1 := [wM E am ((fX7_reads μ (48 + a) (48 + c)).2)]) (st1 := [.int ((fX7_reads μ (48 + a) (48 + c)).1)]) [.int (48 + a), .int (48 + c)] [0] (kX7_reads l E am μ hv (48 + a) (48 + c) h0n) caX7_reads q7_91 rfl ⟨Nat.le_of_ble_eq_true rfl, Nat.le_of_ble_eq_true rfl⟩ ⟨Nat.zero_le _, Nat.zero_le _⟩ 0 0 rfl rfl rfl rfl (by decide) rfl rfl rfl rfl (Nat.le_of_ble_eq_true rfl) dX7_number_20 rfl ?_
    refine g_istore_n C (lv1 := [(3, .int ((fX7_reads μ (48 + a) (48 + c)).1)), (0, .ref (am 0)), (1, .int a), (2, .int c)]) dX7_number_23 rfl (by decide) rfl ?_
    refine g_aload_n C dX7_number_24 rfl 1 rfl ?_
    refine g_getf C (v := .int (((fX7_reads μ (48 + a) (48 + c)).2).1 4)) (T := TX7) (N := 15) 0 0 rfl rfl rfl inX7 10 (by decide) q6_80 rfl dX7_number_25 ?_
    refine g_if_eq C 88 dX7_number_28 (by decide) (fun c_11 => ?_) (fun c_11 => ?_)
    · skip
      refine g_iload_n C dX7_number_88 rfl 0 rfl ?_
      have e_12 : fX7_number μ a c = ((fX7_reads μ (48 + a) (48 + c)).1, (fX7_reads μ (48 + a) (48 + c)).2) := by rw [fX7_number]; rw [if_neg c_1, if_pos c_11]
      exact g_iret C hE (by rw [e_12]) (by rw [e_12]) dX7_number_89
    · skip
      refine g_iload_n C dX7_number_31 rfl 0 rfl ?_
      refine g_if_le C 88 dX7_number_32 (by decide) (fun c_13 => ?_) (fun c_13 => ?_)
      · skip
        refine g_iload_n C dX7_number_88 rfl 0 rfl ?_
        have e_14 : fX7_number μ a c = ((fX7_reads μ (48 + a) (48 + c)).1, (fX7_reads μ (48 + a) (48 + c)).2) := by rw [fX7_number]; rw [if_neg c_1, if_neg c_11, if_pos c_13]
        exact g_iret C hE (by rw [e_14]) (by rw [e_14]) dX7_number_89
      · skip
        refine g_aload_n C dX7_number_35 rfl 1 rfl ?_
        refine g_callV C (cs1 := [wM E am ((fX7_reads μ (48 + a) (48 + c)).2)]) (st1 := [.int (fX7_sign ((fX7_reads μ (48 + a) (48 + c)).2))]) [] [0] (kX7_sign l E am ((fX7_reads μ (48 + a) (48 + c)).2) (vM_reads hv h0n)) caX7_sign q7_80 rfl ⟨Nat.le_of_ble_eq_true rfl, Nat.le_of_ble_eq_true rfl⟩ ⟨Nat.zero_le _, Nat.zero_le _⟩ 0 0 rfl rfl rfl rfl (by decide) rfl rfl rfl rfl (Nat.le_of_ble_eq_true rfl) dX7_number_36 rfl ?_
        refine g_bipush C (v := 48) dX7_number_39 (by decide) ?_
        refine g_bipush C (v := 57) dX7_number_41 (by decide) ?_
        refine g_callS C (cs1 := [wM E am ((fX7_reads μ (48 + a) (48 + c)).2)]) (st1 := [.int (b2i (fX7_in (fX7_sign ((fX7_reads μ (48 + a) (48 + c)).2)) 48 57))]) [.int (fX7_sign ((fX7_reads μ (48 + a) (48 + c)).2)), .int 48, .int 57] [] (kX7_in l E (fX7_sign ((fX7_reads μ (48 + a) (48 + c)).2)) 48 57) caX7_in q6_124 rfl ⟨Nat.le_of_ble_eq_true rfl, Nat.le_of_ble_eq_true rfl⟩ ⟨Nat.zero_le _, Nat.zero_le _⟩ (by decide) rfl rfl rfl rfl (Nat.le_of_ble_eq_true rfl) dX7_number_43 rfl ?_
        refine g_ifB_eq C 88 dX7_number_46 (by decide) (fun c_15 => ?_) (fun c_15 => ?_)
        · skip
          refine g_iload_n C dX7_number_88 rfl 0 rfl ?_
          have e_16 : fX7_number μ a c = ((fX7_reads μ (48 + a) (48 + c)).1, (fX7_reads μ (48 + a) (48 + c)).2) := by rw [fX7_number]; rw [if_neg c_1, if_neg c_11, if_neg c_13, if_neg (ne_true_of_eq_false c_15)]
          exact g_iret C hE (by rw [e_16]) (by rw [e_16]) dX7_number_89
        · skip
          have hs9 := sign_lt (vM_reads hv h0n) (by decide) c_15
          refine g_bipush C (v := 10) dX7_number_49 (by decide) ?_
          refine g_iload_n C dX7_number_51 rfl 0 rfl ?_
          refine g_imul C dX7_number_52 ?_
          refine g_aload_n C dX7_number_53 rfl 1 rfl ?_
          refine g_callV C (cs1 := [wM E am ((fX7_reads μ (48 + a) (48 + c)).2)]) (st1 := [.int (fX7_sign ((fX7_reads μ (48 + a) (48 + c)).2)), .int (10 * ((fX7_reads μ (48 + a) (48 + c)).1))]) [] [0] (kX7_sign l E am ((fX7_reads μ (48 + a) (48 + c)).2) (vM_reads hv h0n)) caX7_sign q7_80 rfl ⟨Nat.le_of_ble_eq_true rfl, Nat.le_of_ble_eq_true rfl⟩ ⟨Nat.zero_le _, Nat.zero_le _⟩ 0 0 rfl rfl rfl rfl (by decide) rfl rfl rfl rfl (Nat.le_of_ble_eq_true rfl) dX7_number_54 rfl ?_
          refine g_iadd C dX7_number_57 ?_
          refine g_bipush C (v := 48) dX7_number_58 (by decide) ?_
          refine g_isub C dX7_number_60 ?_
          refine g_iload_n C dX7_number_61 rfl 3 rfl ?_
          refine g_icmp_gt C 88 dX7_number_62 (by decide) (fun c_17 => ?_) (fun c_17 => ?_)
          · skip
            refine g_iload_n C dX7_number_88 rfl 0 rfl ?_
            have e_18 : fX7_number μ a c = ((fX7_reads μ (48 + a) (48 + c)).1, (fX7_reads μ (48 + a) (48 + c)).2) := by rw [fX7_number]; rw [if_neg c_1, if_neg c_11, if_neg c_13, if_pos c_15, if_pos c_17]
            exact g_iret C hE (by rw [e_18]) (by rw [e_18]) dX7_number_89
          · skip
            refine g_bipush C (v := 10) dX7_number_65 (by decide) ?_
            refine g_iload_n C dX7_number_67 rfl 0 rfl ?_
            refine g_imul C dX7_number_68 ?_
            refine g_aload_n C dX7_number_69 rfl 1 rfl ?_
            refine g_callV C (cs1 := [wM E am ((fX7_reads μ (48 + a) (48 + c)).2)]) (st1 := [.int (fX7_sign ((fX7_reads μ (48 + a) (48 + c)).2)), .int (10 * ((fX7_reads μ (48 + a) (48 + c)).1))]) [] [0] (kX7_sign l E am ((fX7_reads μ (48 + a) (48 + c)).2) (vM_reads hv h0n)) caX7_sign q7_80 rfl ⟨Nat.le_of_ble_eq_true rfl, Nat.le_of_ble_eq_true rfl⟩ ⟨Nat.zero_le _, Nat.zero_le _⟩ 0 0 rfl rfl rfl rfl (by decide) rfl rfl rfl rfl (Nat.le_of_ble_eq_true rfl) dX7_number_70 rfl ?_
            refine g_iadd C dX7_number_73 ?_
            refine g_bipush C (v := 48) dX7_number_74 (by decide) ?_
            refine g_isub C dX7_number_76 ?_
            refine g_istore_n C (lv1 := [(3, .int (((10 * ((fX7_reads μ (48 + a) (48 + c)).1)) + (fX7_sign ((fX7_reads μ (48 + a) (48 + c)).2))) - 48)), (0, .ref (am 0)), (1, .int a), (2, .int c)]) dX7_number_77 rfl (by decide) rfl ?_
            refine g_aload_n C dX7_number_78 rfl 1 rfl ?_
            refine g_dup C dX7_number_79 rfl ?_
            refine g_getf C (v := .int (((fX7_reads μ (48 + a) (48 + c)).2).1 3)) (T := TX7) (N := 15) 0 0 rfl rfl rfl inX7 9 (by decide) q6_79 rfl dX7_number_80 ?_
            refine g_iconst C (v := 1) dX7_number_83 (by decide) ?_
            refine g_iadd C dX7_number_84 ?_
            refine g_putf C (T := TX7) (N := 15) (ty := .int) (w1 := wM E am (sI ((fX7_reads μ (48 + a) (48 + c)).2) 3 ((((fX7_reads μ (48 + a) (48 + c)).2).1 3) + 1))) (cs1 := [wM E am (sI ((fX7_reads μ (48 + a) (48 + c)).2) 3 ((((fX7_reads μ (48 + a) (48 + c)).2).1 3) + 1))]) 0 0 rfl rfl rfl inX7 tyX7_ok nmX7 9 (by decide) q6_79 rfl (by decide +kernel) rfl rfl (Nat.le_of_ble_eq_true rfl) rfl rfl dX7_number_85 ?_
            refine g_iload_n C dX7_number_88 rfl 0 rfl ?_
            have e_19 : fX7_number μ a c = (((10 * ((fX7_reads μ (48 + a) (48 + c)).1)) + (fX7_sign ((fX7_reads μ (48 + a) (48 + c)).2))) - 48, sI ((fX7_reads μ (48 + a) (48 + c)).2) 3 ((((fX7_reads μ (48 + a) (48 + c)).2).1 3) + 1)) := by rw [fX7_number]; rw [if_neg c_1, if_neg c_11, if_neg c_13, if_pos c_15, if_neg c_17]
            exact g_iret C hE (by rw [e_19]) (by rw [e_19]) dX7_number_89
/-- a number's second digit -/
def num2 (c : Int32) (X : Int32 × BS) : Int32 × BS := if X.2.1 4 = 0 then X else if X.1 ≤ 0 then X else if fX7_in (fX7_sign X.2) 48 57 = true then (if c < (10 * X.1 + fX7_sign X.2) - 48 then X else ((10 * X.1 + fX7_sign X.2) - 48, sI X.2 3 (X.2.1 3 + 1))) else X
theorem number_eq (μ : BS) (a c : Int32) : fX7_number μ a c = num2 c (fX7_reads μ (48 + a) (if 9 ≤ c then 57 else 48 + c)) := by
  unfold fX7_number
  split <;> rfl
theorem RD_refl {μ : BS} (h : vM μ) : RD μ μ := ⟨h, ⟨rfl, rfl, rfl, fun _ _ => rfl⟩, Nat.le_refl _, Nat.le_refl _⟩
theorem RD_trans {μ ν ρ : BS} (h : RD μ ν) (g : RD ν ρ) : RD μ ρ := ⟨g.1, ⟨g.2.1.1.trans h.2.1.1, g.2.1.2.1.trans h.2.1.2.1, g.2.1.2.2.1.trans h.2.1.2.2.1, fun j hj => (g.2.1.2.2.2 j hj).trans (h.2.1.2.2.2 j hj)⟩, by have := h.2.2.1; have := g.2.2.1; omega, by have := h.2.2.2; have := g.2.2.2; omega⟩
theorem num2_c {c : Int32} {X : Int32 × BS} (P : Int32 × BS → Prop) (h0 : P X) (h1 : ¬ X.2.1 4 = 0 → ¬ X.1 ≤ 0 → fX7_in (fX7_sign X.2) 48 57 = true → ¬ c < (10 * X.1 + fX7_sign X.2) - 48 → P ((10 * X.1 + fX7_sign X.2) - 48, sI X.2 3 (X.2.1 3 + 1))) : P (num2 c X) := by
  unfold num2
  by_cases c1 : X.2.1 4 = 0
  · rw [if_pos c1]; exact h0
  · rw [if_neg c1]
    by_cases c2 : X.1 ≤ 0
    · rw [if_pos c2]; exact h0
    · rw [if_neg c2]
      by_cases c3 : fX7_in (fX7_sign X.2) 48 57 = true
      · rw [if_pos c3]
        by_cases c4 : c < (10 * X.1 + fX7_sign X.2) - 48
        · rw [if_pos c4]; exact h0
        · rw [if_neg c4]; exact h1 c1 c2 c3 c4
      · rw [if_neg c3]; exact h0
theorem RD_num2 {c : Int32} {X : Int32 × BS} (hv : vM X.2) : RD X.2 (num2 c X).2 := by
  refine num2_c (P := fun Y => RD X.2 Y.2) (RD_refl hv) (fun c1 c2 c3 c4 => ?_)
  have h1 := sign_lt hv (by decide) c3
  have e : X.2.1 3 + 1 = nI (ta X.2 + 1) := nx_add hv.2.2.2.2.1 rfl
  refine ⟨vM_at hv e (by omega), ⟨rfl, rfl, rfl, fun _ _ => rfl⟩, ?_, ?_⟩
  · show ta X.2 ≤ ta (sI X.2 3 (X.2.1 3 + 1))
    rw [ta_at e (by omega)]
    omega
  · show 2 * rm X.2 + ta X.2 ≤ 2 * rm X.2 + ta (sI X.2 3 (X.2.1 3 + 1))
    rw [ta_at e (by omega)]
    omega
theorem RD_number {μ : BS} {a c : Int32} (hv : vM μ) (h0 : 0 < 48 + a) : RD μ (fX7_number μ a c).2 := by
  rw [number_eq]
  have h := RD_reads (b := if 9 ≤ c then 57 else 48 + c) hv h0
  exact RD_trans h (RD_num2 h.1)
theorem vM_number {μ : BS} {a c : Int32} (hv : vM μ) (h0 : 0 < 48 + a) : vM (fX7_number μ a c).2 := (RD_number hv h0).1
theorem number_5 (μ : BS) (a c : Int32) : (fX7_number μ a c).2.1 5 = μ.1 5 := by
  rw [number_eq]
  exact num2_c (P := fun Y => Y.2.1 5 = μ.1 5) (reads_5 _ _ _) (fun _ _ _ _ => reads_5 _ _ _)
theorem number_2 (μ : BS) (a c : Int32) : (fX7_number μ a c).2.2 = μ.2 := by
  rw [number_eq]
  exact num2_c (P := fun Y => Y.2.2 = μ.2) (reads_fr _ _ _).2.2.2 (fun _ _ _ _ => (reads_fr _ _ _).2.2.2)
theorem number_4 (μ : BS) (a c : Int32) : (fX7_number μ a c).2.1 4 = b2i (rW μ (48 + a) (if 9 ≤ c then 57 else 48 + c)) := by
  rw [number_eq]
  exact num2_c (P := fun Y => Y.2.1 4 = b2i (rW μ (48 + a) (if 9 ≤ c then 57 else 48 + c))) (reads_4 _ _ _) (fun _ _ _ _ => reads_4 _ _ _)
theorem b2i_n0 {b : Bool} (h : ¬ b2i b = 0) : b = true := by
  cases b with
  | true => rfl
  | false => exact absurd rfl h
/-- an owner that is read -/
theorem number_ok {μ : BS} (h : ¬ (fX7_number μ 0 4).2.1 4 = 0) : ∃ j : Nat, j < 5 ∧ (fX7_number μ 0 4).1 = nI j := by
  rw [number_4] at h
  have h1 := b2i_n0 h
  unfold rW at h1
  rw [Bool.and_eq_true] at h1
  have h2 := in_int h1.2
  have h3 : ∃ j : Nat, j < 5 ∧ (fX7_reads μ (48 + 0) (if (9 : Int32) ≤ 4 then 57 else 48 + 4)).1 = nI j := by
    rw [reads_eq]
    have e0 : ((48 : Int32) + 0).toInt = 48 := by decide
    have e1 : (if (9 : Int32) ≤ 4 then (57 : Int32) else 48 + 4).toInt = 52 := by decide
    rw [e0, e1] at h2
    obtain ⟨n, hn, e⟩ := nI_of (x := fX7_sign μ) (by
      rw [Int32.lt_iff_toInt_lt, show (0 : Int32).toInt = 0 from by decide]
      omega)
    have h4 : (fX7_sign μ).toInt = n := by rw [e]; exact nI_toInt hn
    refine ⟨n - 48, by omega, ?_⟩
    exact nx_sub (by omega) e (rfl : (48 : Int32) = nI 48)
  rw [number_eq]
  refine num2_c (P := fun Y => ∃ j : Nat, j < 5 ∧ Y.1 = nI j) h3 (fun c1 c2 c3 c4 => ?_)
  obtain ⟨j, hj, e⟩ := h3
  refine absurd ?_ c4
  have h5 := in_int c3
  rw [show (48 : Int32).toInt = 48 from by decide, show (57 : Int32).toInt = 57 from by decide] at h5
  obtain ⟨n, hn, e9⟩ := nI_of (x := fX7_sign (fX7_reads μ (48 + 0) (if (9 : Int32) ≤ 4 then 57 else 48 + 4)).2) (by
    rw [Int32.lt_iff_toInt_lt, show (0 : Int32).toInt = 0 from by decide]
    omega)
  have h6 : (fX7_sign (fX7_reads μ (48 + 0) (if (9 : Int32) ≤ 4 then 57 else 48 + 4)).2).toInt = n := by rw [e9]; exact nI_toInt hn
  have hj0 : 1 ≤ j := by
    rcases Nat.eq_zero_or_pos j with z | z
    · exact absurd (by rw [e, z]; decide) c2
    · exact z
  exact lc_lt (i := 4) (N := 10 * j + n - 48) rfl (nx_sub (by omega) (nx_add (nx_mul (rfl : (10 : Int32) = nI 10) e) e9) (rfl : (48 : Int32) = nI 48)) (by omega) (by omega)
theorem vM_rd5 {μ ν : BS} {v : Int32} {i : Nat} (h : vM ν) (e : ν.1 5 = μ.1 5) (hi : 3 * rm μ ≤ i) : vM (sE ν 6 i v) := vM_rd h (by rw [show rm ν = rm μ from congrArg Int32.toNatClampNeg e]; exact hi)
/-- while an order is read: the place has gone on by n if the reading is well -/
def KR (μ : BS) (n : Nat) (ν : BS) : Prop := RD μ ν ∧ ν.1 5 = μ.1 5 ∧ ν.2 6 (3 * rm μ) = fX7_sign μ ∧ (¬ ν.1 4 = 0 → ta μ + n ≤ ta ν)
theorem RD_e {μ ν : BS} {i : Nat} {v : Int32} (h : RD μ ν) (e : ν.1 5 = μ.1 5) (hi : 3 * rm μ ≤ i) : RD μ (sE ν 6 i v) := ⟨vM_rd5 h.1 e hi, ⟨h.2.1.1, h.2.1.2.1, h.2.1.2.2.1, fun j hj => (if_neg hj).trans (h.2.1.2.2.2 j hj)⟩, h.2.2.1, h.2.2.2⟩
theorem RD_at {μ ν : BS} (h : RD μ ν) (hl : ta ν < 60) : RD μ (sI ν 3 (ν.1 3 + 1)) := by
  have e : ν.1 3 + 1 = nI (ta ν + 1) := nx_add h.1.2.2.2.2.1 rfl
  have e2 : ta (sI ν 3 (ν.1 3 + 1)) = ta ν + 1 := ta_at e (by omega)
  refine ⟨vM_at h.1 e (by omega), h.2.1, ?_, ?_⟩
  · rw [e2]
    have := h.2.2.1
    omega
  · have e3 : rm (sI ν 3 (ν.1 3 + 1)) = rm ν := rfl
    rw [e2, e3]
    have := h.2.2.2
    omega
theorem KR_e {μ ν : BS} {n i : Nat} {v : Int32} (h : KR μ n ν) (hi : 3 * rm μ < i) : KR μ n (sE ν 6 i v) := ⟨RD_e h.1 h.2.1 (by omega), h.2.1, (pk_un (f := ν.2 6) (by omega)).trans h.2.2.1, h.2.2.2⟩
theorem KR_at {μ ν : BS} {n : Nat} (h : KR μ n ν) (hl : ta ν < 60) : KR μ n (sI ν 3 (ν.1 3 + 1)) := ⟨RD_at h.1 hl, h.2.1, h.2.2.1, fun c => by
  rw [ta_at (n := ta ν + 1) (nx_add (b := 1) h.1.1.2.2.2.2.1 (rfl : (1 : Int32) = nI 1)) (by omega)]
  have := h.2.2.2 c
  omega⟩
theorem i2b_z {x : Int32} (h : i2b x = true) : ¬ x = 0 := fun e => by rw [i2b_0 e] at h; cases h
theorem KR_reads {μ ν : BS} {n : Nat} {a b : Int32} (h : KR μ n ν) (h0 : 0 < a) : KR μ n (fX7_reads ν a b).2 := by
  refine ⟨RD_trans h.1 (RD_reads h.1.1 h0), (reads_5 _ _ _).trans h.2.1, ?_, fun c => ?_⟩
  · rw [(reads_fr ν a b).2.2.2]
    exact h.2.2.1
  · rw [reads_4] at c
    have c2 := b2i_n0 c
    unfold rW at c2
    rw [Bool.and_eq_true] at c2
    have := h.2.2.2 (i2b_z c2.1)
    rw [ta_reads h.1.1]
    omega
theorem KR_num {μ ν : BS} {n : Nat} {a c : Int32} (h : KR μ n ν) (h0 : 0 < 48 + a) : KR μ (n + 1) (fX7_number ν a c).2 := by
  refine ⟨RD_trans h.1 (RD_number h.1.1 h0), (number_5 _ _ _).trans h.2.1, ?_, fun q => ?_⟩
  · rw [number_2]
    exact h.2.2.1
  · rw [number_4] at q
    have c1 := b2i_n0 q
    have c2 := c1
    unfold rW at c2
    rw [Bool.and_eq_true] at c2
    have h1 := h.2.2.2 (i2b_z c2.1)
    rw [number_eq]
    have h2 : ta (fX7_reads ν (48 + a) (if 9 ≤ c then 57 else 48 + c)).2 = ta ν + 1 := by rw [ta_reads h.1.1, c1]; rfl
    have h3 := (RD_num2 (c := c) (vM_reads (b := if 9 ≤ c then 57 else 48 + c) h.1.1 h0)).2.2.1
    omega
theorem KR_w {μ ν : BS} {n m : Nat} (h : KR μ n ν) (hm : m ≤ n) : KR μ m ν := ⟨h.1, h.2.1, h.2.2.1, fun c => by have := h.2.2.2 c; omega⟩
theorem RO_0 {μ ν : BS} {n : Nat} (h : KR μ n ν) : RD μ (sI ν 5 (ν.1 5 + 0)) := by
  have e1 : ν.1 5 + 0 = nI (rm ν) := nx_add (b := 0) h.1.1.2.2.2.2.2.2.2.1 rfl
  have e2 : ν.1 5 = nI (rm ν) := h.1.1.2.2.2.2.2.2.2.1
  have e : sI ν 5 (ν.1 5 + 0) = ν := by
    refine Prod.ext (funext fun j => ?_) rfl
    show (if j = 5 then ν.1 5 + 0 else ν.1 j) = ν.1 j
    split
    · rename_i q
      rw [q, e1, ← e2]
    · rfl
  rw [e]
  exact h.1
theorem RO_1 {μ ν : BS} (h : KR μ 2 ν) (hr : rm μ ≤ 30) (hw : ¬ ν.1 4 = 0) (ho : fX7_sign μ = 97 → ∃ j : Nat, j < 5 ∧ ν.2 6 (3 * rm μ + 2) = nI j) : RD μ (sI ν 5 (ν.1 5 + 1)) := by
  have er : rm ν = rm μ := congrArg Int32.toNatClampNeg h.2.1
  have e : ν.1 5 + 1 = nI (rm μ + 1) := nx_add (by rw [← er]; exact h.1.1.2.2.2.2.2.2.2.1) rfl
  have e2 : rm (sI ν 5 (ν.1 5 + 1)) = rm μ + 1 := by
    show (ν.1 5 + 1).toNatClampNeg = rm μ + 1
    rw [e, nI_clamp (by omega)]
  have h4 := h.2.2.2 hw
  refine ⟨⟨h.1.1.1, h.1.1.2.1, h.1.1.2.2.1, h.1.1.2.2.2.1, h.1.1.2.2.2.2.1, h.1.1.2.2.2.2.2.1, ?_, ?_, fun k hk h97 => ?_⟩, h.1.2.1, h.1.2.2.1, ?_⟩
  · rw [e2]; omega
  · rw [e2]; exact e
  · rw [e2] at hk
    rcases Nat.lt_or_ge k (rm μ) with c | c
    · exact h.1.1.2.2.2.2.2.2.2.2 k (by rw [er]; exact c) h97
    · have ek : k = rm μ := by omega
      rw [ek] at h97 ⊢
      exact ho (h.2.2.1.symm.trans h97)
  · rw [e2]
    show 2 * (rm μ + 1) + ta μ ≤ 2 * rm μ + ta ν
    omega
theorem KR_0 {μ : BS} {w : Bool} {m : Int32} (hv : vM μ) (n : Nat) (hw : w = true → n = 1 ∧ ta μ < 60) (hm : m = nI (ta μ + n)) (hn : n ≤ 1) (hr : w = false → n = 0) : KR μ 1 (sE (sE (sI (sI μ 4 (b2i w)) 3 m) 6 (3 * rm μ) (fX7_sign μ)) 6 (3 * rm μ + 2) 1) := by
  have h60 : ta μ + n ≤ 60 := by
    cases w with
    | true => have := hw rfl; omega
    | false => have := hr rfl; have := hv.2.2.2.1; omega
  have e2 : ta (sI (sI μ 4 (b2i w)) 3 m) = ta μ + n := ta_at hm (by omega)
  have h1 : vM (sI (sI μ 4 (b2i w)) 3 m) := vM_at (vM_wlb hv) hm h60
  have h2 : RD μ (sI (sI μ 4 (b2i w)) 3 m) := by
    refine ⟨h1, ⟨rfl, rfl, rfl, fun _ _ => rfl⟩, ?_, ?_⟩
    · rw [e2]; omega
    · rw [e2]
      show 2 * rm μ + ta μ ≤ 2 * rm μ + (ta μ + n)
      omega
  refine KR_e ⟨RD_e h2 rfl (Nat.le_refl _), rfl, pk_us, fun c => ?_⟩ (by omega)
  have c1 : w = true := b2i_n0 c
  show ta μ + 1 ≤ ta (sI (sI μ 4 (b2i w)) 3 m)
  rw [e2, (hw c1).1]
  exact Nat.le_refl _
