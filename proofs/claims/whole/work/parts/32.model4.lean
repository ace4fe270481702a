/-- a loop's values, not to be run -/
def lpW {α : Type} (f : Nat → α → α) (a : α) (i : Nat) : α := if _h : i = 0 then a else f (i - 1) (lpW f a (i - 1))
  termination_by i
  decreasing_by omega
theorem lpW_0 {α : Type} (f : Nat → α → α) (a : α) : lpW f a 0 = a := by rw [lpW]; exact dif_pos rfl
theorem lpW_1 {α : Type} (f : Nat → α → α) (a : α) (i : Nat) : lpW f a (i + 1) = f i (lpW f a i) := by rw [lpW]; exact dif_neg (by omega)
theorem lpW_fst {f : Nat → BS → BS} {a : BS} (h : ∀ i x, (f i x).1 = x.1) : ∀ i, (lpW f a i).1 = a.1
  | 0 => by rw [lpW_0]
  | i + 1 => by rw [lpW_1]; exact (h i _).trans (lpW_fst h i)
/-- a row copied into another one, from p on, as far as i -/
def cpW (a : BS) (k p : Nat) (v : Nat → Int32) (i : Nat) : Nat → Int32 := fun j => if p ≤ j ∧ j < p + i then v (j - p) else a.2 k j
theorem sA_id {a : BS} {k : Nat} {f : Nat → Int32} (h : ∀ j, f j = a.2 k j) : sA a k f = a := by
  refine Prod.ext rfl (funext fun j => ?_)
  show (if j = k then f else a.2 j) = a.2 j
  split
  · rename_i e
    rw [e]
    exact funext h
  · rfl
theorem lp_cp {f : Nat → BS → BS} {a : BS} {k p n : Nat} {v : Nat → Int32} (hf : ∀ i, i < n → f i (sA a k (cpW a k p v i)) = sE (sA a k (cpW a k p v i)) k (p + i) (v i)) : ∀ i, i ≤ n → lpW f a i = sA a k (cpW a k p v i) := by
  intro i
  induction i with
  | zero =>
    intro _
    rw [lpW_0]
    refine (sA_id fun j => ?_).symm
    exact if_neg (by omega)
  | succ i ih =>
    intro h
    rw [lpW_1, ih (by omega), hf i (by omega)]
    refine Prod.ext rfl (funext fun j => ?_)
    show (if j = k then upd ((sA a k (cpW a k p v i)).2 k) (p + i) (v i) else (if j = k then cpW a k p v i else a.2 j)) = (if j = k then cpW a k p v (i + 1) else a.2 j)
    split
    · funext z
      show (if z = p + i then v i else (if k = k then cpW a k p v i else a.2 k) z) = cpW a k p v (i + 1) z
      rw [if_pos rfl]
      unfold cpW
      by_cases e : z = p + i
      · subst e
        rw [if_pos rfl, if_pos (by omega)]
        congr 1
        omega
      · rw [if_neg e]
        by_cases e2 : p ≤ z ∧ z < p + i
        · rw [if_pos e2, if_pos (by omega)]
        · rw [if_neg e2, if_neg (by omega)]
    · rfl
def fX7_records_L52 (μ : BS) (i52 : Nat) (t52 : BS) : BS :=
  sE t52 2 ((213 * (t52.1 1).toNatClampNeg) + i52) (t52.2 0 i52)
def fX7_records_L11 (μ : BS) (i11 : Nat) (t11 : BS) : BS :=
  sE t11 2 i11 (t11.2 2 (i11 + 213))
def fX7_records (μ : BS) : BS :=
  if (μ.1 1) = 6 then sI (lpW (fX7_records_L52 μ) (sI (lpW (fX7_records_L11 μ) μ 1065) 1 (((lpW (fX7_records_L11 μ) μ 1065).1 1) - 1)) 213) 1 (((lpW (fX7_records_L52 μ) (sI (lpW (fX7_records_L11 μ) μ 1065) 1 (((lpW (fX7_records_L11 μ) μ 1065).1 1) - 1)) 213).1 1) + 1) else sI (lpW (fX7_records_L52 μ) μ 213) 1 (((lpW (fX7_records_L52 μ) μ 213).1 1) + 1)
theorem rec_a {μ : BS} (hv : vM μ) (h : ¬ μ.1 1 = 6) : ∃ j : Nat, j < 6 ∧ μ.1 1 = nI j := by
  have h1 := hv.2.1.2.2.2.1
  have h2 := hv.2.1.2.2.2.2.1
  refine ⟨sm μ, ?_, h2⟩
  rcases Nat.lt_or_ge (sm μ) 6 with c | c
  · exact c
  · exact absurd (by rw [h2, show sm μ = 6 by omega]; rfl) h
theorem rec_b {μ : BS} (h : μ.1 1 = 6) : ∃ j : Nat, j < 6 ∧ (lpW (fX7_records_L11 μ) μ 1065).1 1 - 1 = nI j := ⟨5, by decide, by rw [lpW_fst (f := fX7_records_L11 μ) (fun i x => rfl) 1065, h]; rfl⟩
theorem caX7_records : gCalV yX7_records cX7_records 2 none 0 := ⟨⟨q6_134, q1_6, by decide +kernel⟩, q6_133, qs_19⟩
set_option maxHeartbeats 4000000 in
set_option maxRecDepth 100000 in
theorem kX7_records (l : Launch) (E : gE) (am : Nat → Nat) (μ : BS) (hv : vM μ)   : MC l E yX7_records cX7_records 2 none 0 0 [.ref (am 0)] [wM E am μ] none [wM E am (fX7_records μ)] := by
  have hv1 : cM μ ≤ 20 := hv.1.1
  have hc0 : μ.2 0 0 = nI (cM μ) := hv.1.2.1
  refine mc_of (by decide +kernel) (Nat.le_of_ble_eq_true rfl) (lv := [(0, .ref (am 0))]) rfl (fun X C hE => ?_)
  refine g_aload_n C dX7_records_0 rfl 0 rfl ?_
  refine g_getf C (v := .int (μ.1 1)) (T := TX7) (N := 15) 0 0 rfl rfl rfl inX7 4 (by decide) q6_74 rfl dX7_records_1 ?_
  refine g_bipush C (v := 6) dX7_records_4 (by decide) ?_
  refine g_icmp_ne C 50 dX7_records_6 (by decide) (fun c_1 => ?_) (fun c_1 => ?_)
  · skip
    have hs7 := rec_a hv c_1
    refine g_iconst C (v := 0) dX7_records_50 (by decide) ?_
    refine g_istore_n C (lv1 := [(1, .int 0), (0, .ref (am 0))]) dX7_records_51 rfl (by decide) rfl ?_
    have hL_4 : ∀ d_2 i52 : Nat, i52 + d_2 = 213 → G X 0 0 [wM E am (lpW (fX7_records_L52 μ) μ i52)] [(0, .ref (am 0)), (1, .int (nI i52))] 52 [] := by
      intro d_2
      induction d_2 with
      | zero =>
        intro i52 hi_3
        obtain rfl : i52 = 213 := by omega
        refine g_iload_n C dX7_records_52 rfl 1 rfl ?_
        refine g_sipush C (v := 213) dX7_records_53 (by decide) ?_
        refine g_icmp_ge C 86 dX7_records_56 (by decide) (fun c_6 => ?_) (fun c_6 => ?_)
        · skip
          refine g_aload_n C dX7_records_86 rfl 0 rfl ?_
          refine g_dup C dX7_records_87 rfl ?_
          refine g_getf C (v := .int ((lpW (fX7_records_L52 μ) μ 213).1 1)) (T := TX7) (N := 15) 0 0 rfl rfl rfl inX7 4 (by decide) q6_74 rfl dX7_records_88 ?_
          refine g_iconst C (v := 1) dX7_records_91 (by decide) ?_
          refine g_iadd C dX7_records_92 ?_
          refine g_putf C (T := TX7) (N := 15) (ty := .int) (w1 := wM E am (sI (lpW (fX7_records_L52 μ) μ 213) 1 (((lpW (fX7_records_L52 μ) μ 213).1 1) + 1))) (cs1 := [wM E am (sI (lpW (fX7_records_L52 μ) μ 213) 1 (((lpW (fX7_records_L52 μ) μ 213).1 1) + 1))]) 0 0 rfl rfl rfl inX7 tyX7_ok nmX7 4 (by decide) q6_74 rfl (by decide +kernel) rfl rfl (Nat.le_of_ble_eq_true rfl) rfl rfl dX7_records_93 ?_
          have e_7 : fX7_records μ = sI (lpW (fX7_records_L52 μ) μ 213) 1 (((lpW (fX7_records_L52 μ) μ 213).1 1) + 1) := by rw [fX7_records]; rw [if_neg c_1]
          exact g_vret C hE rfl (by rw [e_7]) dX7_records_96
        · exact absurd (lc_le rfl nI_l213 (by omega) (by omega)) c_6
      | succ d_2 ih_5 =>
        intro i52 hi_3
        have hs8 : (lpW (fX7_records_L52 μ) μ i52).1 = μ.1 := lpW_fst (f := fX7_records_L52 μ) (a := μ) (fun i x => rfl) i52
        have hs9 : (lpW (fX7_records_L52 μ) μ i52).1 1 = nI ((lpW (fX7_records_L52 μ) μ i52).1 1).toNatClampNeg ∧ ((lpW (fX7_records_L52 μ) μ i52).1 1).toNatClampNeg < 6 := okI (by decide) (by rw [hs8]; exact hs7)
        refine g_iload_n C dX7_records_52 rfl 1 rfl ?_
        refine g_sipush C (v := 213) dX7_records_53 (by decide) ?_
        refine g_icmp_ge C 86 dX7_records_56 (by decide) (fun c_8 => ?_) (fun c_8 => ?_)
        · exact absurd c_8 (lc_nle rfl nI_l213 (by omega) (by omega))
        · skip
          refine g_aload_n C dX7_records_59 rfl 0 rfl ?_
          refine g_getf C (T := TX7) (N := 15) 0 0 rfl rfl rfl inX7 3 (by decide) q6_73 rfl dX7_records_60 ?_
          refine g_sipush C (v := 213) dX7_records_63 (by decide) ?_
          refine g_aload_n C dX7_records_66 rfl 0 rfl ?_
          refine g_getf C (v := .int ((lpW (fX7_records_L52 μ) μ i52).1 1)) (T := TX7) (N := 15) 0 0 rfl rfl rfl inX7 4 (by decide) q6_74 rfl dX7_records_67 ?_
          refine g_imul C dX7_records_70 ?_
          refine g_iload_n C dX7_records_71 rfl 1 rfl ?_
          refine g_iadd C dX7_records_72 ?_
          refine g_aload_n C dX7_records_73 rfl 0 rfl ?_
          refine g_getf C (T := TX7) (N := 15) 0 0 rfl rfl rfl inX7 1 (by decide) q6_71 rfl dX7_records_74 ?_
          refine g_iload_n C dX7_records_77 rfl 1 rfl ?_
          refine g_ialdn C 0 1 i52 rfl rfl rfl (by omega) (by decide) dX7_records_78 ?_
          refine g_iastn C (w1 := wM E am (sE (lpW (fX7_records_L52 μ) μ i52) 2 ((213 * ((lpW (fX7_records_L52 μ) μ i52).1 1).toNatClampNeg) + i52) ((lpW (fX7_records_L52 μ) μ i52).2 0 i52))) (cs1 := [wM E am (sE (lpW (fX7_records_L52 μ) μ i52) 2 ((213 * ((lpW (fX7_records_L52 μ) μ i52).1 1).toNatClampNeg) + i52) ((lpW (fX7_records_L52 μ) μ i52).2 0 i52))]) 0 3 ((213 * ((lpW (fX7_records_L52 μ) μ i52).1 1).toNatClampNeg) + i52) rfl rfl (nx_add (nx_mul rfl hs9.1) rfl) (by omega) (by decide) rfl rfl dX7_records_79 ?_
          refine g_iinc C (v := nI (i52 + 1)) (lv1 := [(1, .int (nI (i52 + 1))), (0, .ref (am 0))]) dX7_records_80 1 rfl (nI_1 i52) (by decide) rfl ?_
          refine g_goto C 52 dX7_records_83 (by decide) ?_
          have e_9 : (lpW (fX7_records_L52 μ) μ (i52 + 1)) = sE (lpW (fX7_records_L52 μ) μ i52) 2 ((213 * ((lpW (fX7_records_L52 μ) μ i52).1 1).toNatClampNeg) + i52) ((lpW (fX7_records_L52 μ) μ i52).2 0 i52) := by
            rw [lpW_1, fX7_records_L52]
          have h_10 := ih_5 (i52 + 1) (by omega)
          rw [e_9] at h_10
          exact g_sub [1, 0] rfl h_10
    refine g_sub [1, 0] (lv1 := [(0, .ref (am 0)), (1, .int 0)]) rfl ?_
    have h_11 := hL_4 213 0 (by omega)
    rw [lpW_0] at h_11
    exact h_11
  · skip
    have hs7 := rec_b c_1
    refine g_iconst C (v := 0) dX7_records_9 (by decide) ?_
    refine g_istore_n C (lv1 := [(1, .int 0), (0, .ref (am 0))]) dX7_records_10 rfl (by decide) rfl ?_
    have hL_14 : ∀ d_12 i11 : Nat, i11 + d_12 = 1065 → G X 0 0 [wM E am (lpW (fX7_records_L11 μ) μ i11)] [(0, .ref (am 0)), (1, .int (nI i11))] 11 [] := by
      intro d_12
      induction d_12 with
      | zero =>
        intro i11 hi_13
        obtain rfl : i11 = 1065 := by omega
        refine g_iload_n C dX7_records_11 rfl 1 rfl ?_
        refine g_sipush C (v := 1065) dX7_records_12 (by decide) ?_
        refine g_icmp_ge C 40 dX7_records_15 (by decide) (fun c_16 => ?_) (fun c_16 => ?_)
        · skip
          refine g_aload_n C dX7_records_40 rfl 0 rfl ?_
          refine g_dup C dX7_records_41 rfl ?_
          refine g_getf C (v := .int ((lpW (fX7_records_L11 μ) μ 1065).1 1)) (T := TX7) (N := 15) 0 0 rfl rfl rfl inX7 4 (by decide) q6_74 rfl dX7_records_42 ?_
          refine g_iconst C (v := 1) dX7_records_45 (by decide) ?_
          refine g_isub C dX7_records_46 ?_
          refine g_putf C (T := TX7) (N := 15) (ty := .int) (w1 := wM E am (sI (lpW (fX7_records_L11 μ) μ 1065) 1 (((lpW (fX7_records_L11 μ) μ 1065).1 1) - 1))) (cs1 := [wM E am (sI (lpW (fX7_records_L11 μ) μ 1065) 1 (((lpW (fX7_records_L11 μ) μ 1065).1 1) - 1))]) 0 0 rfl rfl rfl inX7 tyX7_ok nmX7 4 (by decide) q6_74 rfl (by decide +kernel) rfl rfl (Nat.le_of_ble_eq_true rfl) rfl rfl dX7_records_47 ?_
          refine g_iconst C (v := 0) dX7_records_50 (by decide) ?_
          refine g_istore_n C (lv1 := [(1, .int 0), (0, .ref (am 0))]) dX7_records_51 rfl (by decide) rfl ?_
          have hL_19 : ∀ d_17 i52 : Nat, i52 + d_17 = 213 → G X 0 0 [wM E am (lpW (fX7_records_L52 μ) (sI (lpW (fX7_records_L11 μ) μ 1065) 1 (((lpW (fX7_records_L11 μ) μ 1065).1 1) - 1)) i52)] [(0, .ref (am 0)), (1, .int (nI i52))] 52 [] := by
            intro d_17
            induction d_17 with
            | zero =>
              intro i52 hi_18
              obtain rfl : i52 = 213 := by omega
              refine g_iload_n C dX7_records_52 rfl 1 rfl ?_
              refine g_sipush C (v := 213) dX7_records_53 (by decide) ?_
              refine g_icmp_ge C 86 dX7_records_56 (by decide) (fun c_21 => ?_) (fun c_21 => ?_)
              · skip
                refine g_aload_n C dX7_records_86 rfl 0 rfl ?_
                refine g_dup C dX7_records_87 rfl ?_
                refine g_getf C (v := .int ((lpW (fX7_records_L52 μ) (sI (lpW (fX7_records_L11 μ) μ 1065) 1 (((lpW (fX7_records_L11 μ) μ 1065).1 1) - 1)) 213).1 1)) (T := TX7) (N := 15) 0 0 rfl rfl rfl inX7 4 (by decide) q6_74 rfl dX7_records_88 ?_
                refine g_iconst C (v := 1) dX7_records_91 (by decide) ?_
                refine g_iadd C dX7_records_92 ?_
                refine g_putf C (T := TX7) (N := 15) (ty := .int) (w1 := wM E am (sI (lpW (fX7_records_L52 μ) (sI (lpW (fX7_records_L11 μ) μ 1065) 1 (((lpW (fX7_records_L11 μ) μ 1065).1 1) - 1)) 213) 1 (((lpW (fX7_records_L52 μ) (sI (lpW (fX7_records_L11 μ) μ 1065) 1 (((lpW (fX7_records_L11 μ) μ 1065).1 1) - 1)) 213).1 1) + 1))) (cs1 := [wM E am (sI (lpW (fX7_records_L52 μ) (sI (lpW (fX7_records_L11 μ) μ 1065) 1 (((lpW (fX7_records_L11 μ) μ 1065).1 1) - 1)) 213) 1 (((lpW (fX7_records_L52 μ) (sI (lpW (fX7_records_L11 μ) μ 1065) 1 (((lpW (fX7_records_L11 μ) μ 1065).1 1) - 1)) 213).1 1) + 1))]) 0 0 rfl rfl rfl inX7 tyX7_ok nmX7 4 (by decide) q6_74 rfl (by decide +kernel) rfl rfl (Nat.le_of_ble_eq_true rfl) rfl rfl dX7_records_93 ?_
                have e_22 : fX7_records μ = sI (lpW (fX7_records_L52 μ) (sI (lpW (fX7_records_L11 μ) μ 1065) 1 (((lpW (fX7_records_L11 μ) μ 1065).1 1) - 1)) 213) 1 (((lpW (fX7_records_L52 μ) (sI (lpW (fX7_records_L11 μ) μ 1065) 1 (((lpW (fX7_records_L11 μ) μ 1065).1 1) - 1)) 213).1 1) + 1) := by rw [fX7_records]; rw [if_pos c_1]
                exact g_vret C hE rfl (by rw [e_22]) dX7_records_96
              · exact absurd (lc_le rfl nI_l213 (by omega) (by omega)) c_21
            | succ d_17 ih_20 =>
              intro i52 hi_18
              have hs8 : (lpW (fX7_records_L52 μ) (sI (lpW (fX7_records_L11 μ) μ 1065) 1 (((lpW (fX7_records_L11 μ) μ 1065).1 1) - 1)) i52).1 = (sI (lpW (fX7_records_L11 μ) μ 1065) 1 (((lpW (fX7_records_L11 μ) μ 1065).1 1) - 1)).1 := lpW_fst (f := fX7_records_L52 μ) (a := sI (lpW (fX7_records_L11 μ) μ 1065) 1 (((lpW (fX7_records_L11 μ) μ 1065).1 1) - 1)) (fun i x => rfl) i52
              have hs9 : (lpW (fX7_records_L52 μ) (sI (lpW (fX7_records_L11 μ) μ 1065) 1 (((lpW (fX7_records_L11 μ) μ 1065).1 1) - 1)) i52).1 1 = nI ((lpW (fX7_records_L52 μ) (sI (lpW (fX7_records_L11 μ) μ 1065) 1 (((lpW (fX7_records_L11 μ) μ 1065).1 1) - 1)) i52).1 1).toNatClampNeg ∧ ((lpW (fX7_records_L52 μ) (sI (lpW (fX7_records_L11 μ) μ 1065) 1 (((lpW (fX7_records_L11 μ) μ 1065).1 1) - 1)) i52).1 1).toNatClampNeg < 6 := okI (by decide) (by rw [hs8]; exact hs7)
              refine g_iload_n C dX7_records_52 rfl 1 rfl ?_
              refine g_sipush C (v := 213) dX7_records_53 (by decide) ?_
              refine g_icmp_ge C 86 dX7_records_56 (by decide) (fun c_23 => ?_) (fun c_23 => ?_)
              · exact absurd c_23 (lc_nle rfl nI_l213 (by omega) (by omega))
              · skip
                refine g_aload_n C dX7_records_59 rfl 0 rfl ?_
                refine g_getf C (T := TX7) (N := 15) 0 0 rfl rfl rfl inX7 3 (by decide) q6_73 rfl dX7_records_60 ?_
                refine g_sipush C (v := 213) dX7_records_63 (by decide) ?_
                refine g_aload_n C dX7_records_66 rfl 0 rfl ?_
                refine g_getf C (v := .int ((lpW (fX7_records_L52 μ) (sI (lpW (fX7_records_L11 μ) μ 1065) 1 (((lpW (fX7_records_L11 μ) μ 1065).1 1) - 1)) i52).1 1)) (T := TX7) (N := 15) 0 0 rfl rfl rfl inX7 4 (by decide) q6_74 rfl dX7_records_67 ?_
                refine g_imul C dX7_records_70 ?_
                refine g_iload_n C dX7_records_71 rfl 1 rfl ?_
                refine g_iadd C dX7_records_72 ?_
                refine g_aload_n C dX7_records_73 rfl 0 rfl ?_
                refine g_getf C (T := TX7) (N := 15) 0 0 rfl rfl rfl inX7 1 (by decide) q6_71 rfl dX7_records_74 ?_
                refine g_iload_n C dX7_records_77 rfl 1 rfl ?_
                refine g_ialdn C 0 1 i52 rfl rfl rfl (by omega) (by decide) dX7_records_78 ?_
                refine g_iastn C (w1 := wM E am (sE (lpW (fX7_records_L52 μ) (sI (lpW (fX7_records_L11 μ) μ 1065) 1 (((lpW (fX7_records_L11 μ) μ 1065).1 1) - 1)) i52) 2 ((213 * ((lpW (fX7_records_L52 μ) (sI (lpW (fX7_records_L11 μ) μ 1065) 1 (((lpW (fX7_records_L11 μ) μ 1065).1 1) - 1)) i52).1 1).toNatClampNeg) + i52) ((lpW (fX7_records_L52 μ) (sI (lpW (fX7_records_L11 μ) μ 1065) 1 (((lpW (fX7_records_L11 μ) μ 1065).1 1) - 1)) i52).2 0 i52))) (cs1 := [wM E am (sE (lpW (fX7_records_L52 μ) (sI (lpW (fX7_records_L11 μ) μ 1065) 1 (((lpW (fX7_records_L11 μ) μ 1065).1 1) - 1)) i52) 2 ((213 * ((lpW (fX7_records_L52 μ) (sI (lpW (fX7_records_L11 μ) μ 1065) 1 (((lpW (fX7_records_L11 μ) μ 1065).1 1) - 1)) i52).1 1).toNatClampNeg) + i52) ((lpW (fX7_records_L52 μ) (sI (lpW (fX7_records_L11 μ) μ 1065) 1 (((lpW (fX7_records_L11 μ) μ 1065).1 1) - 1)) i52).2 0 i52))]) 0 3 ((213 * ((lpW (fX7_records_L52 μ) (sI (lpW (fX7_records_L11 μ) μ 1065) 1 (((lpW (fX7_records_L11 μ) μ 1065).1 1) - 1)) i52).1 1).toNatClampNeg) + i52) rfl rfl (nx_add (nx_mul rfl hs9.1) rfl) (by omega) (by decide) rfl rfl dX7_records_79 ?_
                refine g_iinc C (v := nI (i52 + 1)) (lv1 := [(1, .int (nI (i52 + 1))), (0, .ref (am 0))]) dX7_records_80 1 rfl (nI_1 i52) (by decide) rfl ?_
                refine g_goto C 52 dX7_records_83 (by decide) ?_
                have e_24 : (lpW (fX7_records_L52 μ) (sI (lpW (fX7_records_L11 μ) μ 1065) 1 (((lpW (fX7_records_L11 μ) μ 1065).1 1) - 1)) (i52 + 1)) = sE (lpW (fX7_records_L52 μ) (sI (lpW (fX7_records_L11 μ) μ 1065) 1 (((lpW (fX7_records_L11 μ) μ 1065).1 1) - 1)) i52) 2 ((213 * ((lpW (fX7_records_L52 μ) (sI (lpW (fX7_records_L11 μ) μ 1065) 1 (((lpW (fX7_records_L11 μ) μ 1065).1 1) - 1)) i52).1 1).toNatClampNeg) + i52) ((lpW (fX7_records_L52 μ) (sI (lpW (fX7_records_L11 μ) μ 1065) 1 (((lpW (fX7_records_L11 μ) μ 1065).1 1) - 1)) i52).2 0 i52) := by
                  rw [lpW_1, fX7_records_L52]
                have h_25 := ih_20 (i52 + 1) (by omega)
                rw [e_24] at h_25
                exact g_sub [1, 0] rfl h_25
          refine g_sub [1, 0] (lv1 := [(0, .ref (am 0)), (1, .int 0)]) rfl ?_
          have h_26 := hL_19 213 0 (by omega)
          rw [lpW_0] at h_26
          exact h_26
        · exact absurd (lc_le rfl nI_l1065 (by omega) (by omega)) c_16
      | succ d_12 ih_15 =>
        intro i11 hi_13
        refine g_iload_n C dX7_records_11 rfl 1 rfl ?_
        refine g_sipush C (v := 1065) dX7_records_12 (by decide) ?_
        refine g_icmp_ge C 40 dX7_records_15 (by decide) (fun c_27 => ?_) (fun c_27 => ?_)
        · exact absurd c_27 (lc_nle rfl nI_l1065 (by omega) (by omega))
        · skip
          refine g_aload_n C dX7_records_18 rfl 0 rfl ?_
          refine g_getf C (T := TX7) (N := 15) 0 0 rfl rfl rfl inX7 3 (by decide) q6_73 rfl dX7_records_19 ?_
          refine g_iload_n C dX7_records_22 rfl 1 rfl ?_
          refine g_aload_n C dX7_records_23 rfl 0 rfl ?_
          refine g_getf C (T := TX7) (N := 15) 0 0 rfl rfl rfl inX7 3 (by decide) q6_73 rfl dX7_records_24 ?_
          refine g_iload_n C dX7_records_27 rfl 1 rfl ?_
          refine g_sipush C (v := 213) dX7_records_28 (by decide) ?_
          refine g_iadd C dX7_records_31 ?_
          refine g_ialdn C 0 3 (i11 + 213) rfl rfl (nx_add rfl rfl) (by omega) (by decide) dX7_records_32 ?_
          refine g_iastn C (w1 := wM E am (sE (lpW (fX7_records_L11 μ) μ i11) 2 i11 ((lpW (fX7_records_L11 μ) μ i11).2 2 (i11 + 213)))) (cs1 := [wM E am (sE (lpW (fX7_records_L11 μ) μ i11) 2 i11 ((lpW (fX7_records_L11 μ) μ i11).2 2 (i11 + 213)))]) 0 3 i11 rfl rfl rfl (by omega) (by decide) rfl rfl dX7_records_33 ?_
          refine g_iinc C (v := nI (i11 + 1)) (lv1 := [(1, .int (nI (i11 + 1))), (0, .ref (am 0))]) dX7_records_34 1 rfl (nI_1 i11) (by decide) rfl ?_
          refine g_goto C 11 dX7_records_37 (by decide) ?_
          have e_28 : (lpW (fX7_records_L11 μ) μ (i11 + 1)) = sE (lpW (fX7_records_L11 μ) μ i11) 2 i11 ((lpW (fX7_records_L11 μ) μ i11).2 2 (i11 + 213)) := by
            rw [lpW_1, fX7_records_L11]
          have h_29 := ih_15 (i11 + 1) (by omega)
          rw [e_28] at h_29
          exact g_sub [1, 0] rfl h_29
    refine g_sub [1, 0] (lv1 := [(0, .ref (am 0)), (1, .int 0)]) rfl ?_
    have h_30 := hL_14 1065 0 (by omega)
    rw [lpW_0] at h_30
    exact h_30
def fX7_putAside_L2 (μ : BS) (i2 : Nat) (t2 : BS) : BS :=
  sE t2 1 i2 (t2.2 0 i2)
def fX7_putAside (μ : BS) : BS :=
  (lpW (fX7_putAside_L2 μ) μ 213)
theorem caX7_putAside : gCalV yX7_putAside cX7_putAside 2 none 0 := ⟨⟨q7_102, q1_6, by decide +kernel⟩, q7_101, qs_47⟩
set_option maxHeartbeats 4000000 in
set_option maxRecDepth 100000 in
theorem kX7_putAside (l : Launch) (E : gE) (am : Nat → Nat) (μ : BS) (hv : vM μ)   : MC l E yX7_putAside cX7_putAside 2 none 0 0 [.ref (am 0)] [wM E am μ] none [wM E am (fX7_putAside μ)] := by
  have hv1 : cM μ ≤ 20 := hv.1.1
  have hc0 : μ.2 0 0 = nI (cM μ) := hv.1.2.1
  refine mc_of (by decide +kernel) (Nat.le_of_ble_eq_true rfl) (lv := [(0, .ref (am 0))]) rfl (fun X C hE => ?_)
  refine g_iconst C (v := 0) dX7_putAside_0 (by decide) ?_
  refine g_istore_n C (lv1 := [(1, .int 0), (0, .ref (am 0))]) dX7_putAside_1 rfl (by decide) rfl ?_
  have hL_3 : ∀ d_1 i2 : Nat, i2 + d_1 = 213 → G X 0 0 [wM E am (lpW (fX7_putAside_L2 μ) μ i2)] [(0, .ref (am 0)), (1, .int (nI i2))] 2 [] := by
    intro d_1
    induction d_1 with
    | zero =>
      intro i2 hi_2
      obtain rfl : i2 = 213 := by omega
      refine g_iload_n C dX7_putAside_2 rfl 1 rfl ?_
      refine g_sipush C (v := 213) dX7_putAside_3 (by decide) ?_
      refine g_icmp_ge C 27 dX7_putAside_6 (by decide) (fun c_5 => ?_) (fun c_5 => ?_)
      · skip
        have e_6 : fX7_putAside μ = (lpW (fX7_putAside_L2 μ) μ 213) := by rw [fX7_putAside]
        exact g_vret C hE rfl (by rw [e_6]) dX7_putAside_27
      · exact absurd (lc_le rfl nI_l213 (by omega) (by omega)) c_5
    | succ d_1 ih_4 =>
      intro i2 hi_2
      refine g_iload_n C dX7_putAside_2 rfl 1 rfl ?_
      refine g_sipush C (v := 213) dX7_putAside_3 (by decide) ?_
      refine g_icmp_ge C 27 dX7_putAside_6 (by decide) (fun c_7 => ?_) (fun c_7 => ?_)
      · exact absurd c_7 (lc_nle rfl nI_l213 (by omega) (by omega))
      · skip
        refine g_aload_n C dX7_putAside_9 rfl 0 rfl ?_
        refine g_getf C (T := TX7) (N := 15) 0 0 rfl rfl rfl inX7 2 (by decide) q6_72 rfl dX7_putAside_10 ?_
        refine g_iload_n C dX7_putAside_13 rfl 1 rfl ?_
        refine g_aload_n C dX7_putAside_14 rfl 0 rfl ?_
        refine g_getf C (T := TX7) (N := 15) 0 0 rfl rfl rfl inX7 1 (by decide) q6_71 rfl dX7_putAside_15 ?_
        refine g_iload_n C dX7_putAside_18 rfl 1 rfl ?_
        refine g_ialdn C 0 1 i2 rfl rfl rfl (by omega) (by decide) dX7_putAside_19 ?_
        refine g_iastn C (w1 := wM E am (sE (lpW (fX7_putAside_L2 μ) μ i2) 1 i2 ((lpW (fX7_putAside_L2 μ) μ i2).2 0 i2))) (cs1 := [wM E am (sE (lpW (fX7_putAside_L2 μ) μ i2) 1 i2 ((lpW (fX7_putAside_L2 μ) μ i2).2 0 i2))]) 0 2 i2 rfl rfl rfl (by omega) (by decide) rfl rfl dX7_putAside_20 ?_
        refine g_iinc C (v := nI (i2 + 1)) (lv1 := [(1, .int (nI (i2 + 1))), (0, .ref (am 0))]) dX7_putAside_21 1 rfl (nI_1 i2) (by decide) rfl ?_
        refine g_goto C 2 dX7_putAside_24 (by decide) ?_
        have e_8 : (lpW (fX7_putAside_L2 μ) μ (i2 + 1)) = sE (lpW (fX7_putAside_L2 μ) μ i2) 1 i2 ((lpW (fX7_putAside_L2 μ) μ i2).2 0 i2) := by
          rw [lpW_1, fX7_putAside_L2]
        have h_9 := ih_4 (i2 + 1) (by omega)
        rw [e_8] at h_9
        exact g_sub [1, 0] rfl h_9
  refine g_sub [1, 0] (lv1 := [(0, .ref (am 0)), (1, .int 0)]) rfl ?_
  have h_10 := hL_3 213 0 (by omega)
  rw [lpW_0] at h_10
  exact h_10
def fX7_takeBack_L2 (μ : BS) (i2 : Nat) (t2 : BS) : BS :=
  sE t2 0 i2 (t2.2 1 i2)
def fX7_takeBack (μ : BS) : BS :=
  (lpW (fX7_takeBack_L2 μ) μ 213)
theorem caX7_takeBack : gCalV yX7_takeBack cX7_takeBack 2 none 0 := ⟨⟨q7_118, q1_6, by decide +kernel⟩, q7_117, qs_51⟩
set_option maxHeartbeats 4000000 in
set_option maxRecDepth 100000 in
theorem kX7_takeBack (l : Launch) (E : gE) (am : Nat → Nat) (μ : BS) (hv : vM μ)   : MC l E yX7_takeBack cX7_takeBack 2 none 0 0 [.ref (am 0)] [wM E am μ] none [wM E am (fX7_takeBack μ)] := by
  have hv1 : cM μ ≤ 20 := hv.1.1
  have hc0 : μ.2 0 0 = nI (cM μ) := hv.1.2.1
  refine mc_of (by decide +kernel) (Nat.le_of_ble_eq_true rfl) (lv := [(0, .ref (am 0))]) rfl (fun X C hE => ?_)
  refine g_iconst C (v := 0) dX7_takeBack_0 (by decide) ?_
  refine g_istore_n C (lv1 := [(1, .int 0), (0, .ref (am 0))]) dX7_takeBack_1 rfl (by decide) rfl ?_
  have hL_3 : ∀ d_1 i2 : Nat, i2 + d_1 = 213 → G X 0 0 [wM E am (lpW (fX7_takeBack_L2 μ) μ i2)] [(0, .ref (am 0)), (1, .int (nI i2))] 2 [] := by
    intro d_1
    induction d_1 with
    | zero =>
      intro i2 hi_2
      obtain rfl : i2 = 213 := by omega
      refine g_iload_n C dX7_takeBack_2 rfl 1 rfl ?_
      refine g_sipush C (v := 213) dX7_takeBack_3 (by decide) ?_
      refine g_icmp_ge C 27 dX7_takeBack_6 (by decide) (fun c_5 => ?_) (fun c_5 => ?_)
      · skip
        have e_6 : fX7_takeBack μ = (lpW (fX7_takeBack_L2 μ) μ 213) := by rw [fX7_takeBack]
        exact g_vret C hE rfl (by rw [e_6]) dX7_takeBack_27
      · exact absurd (lc_le rfl nI_l213 (by omega) (by omega)) c_5
    | succ d_1 ih_4 =>
      intro i2 hi_2
      refine g_iload_n C dX7_takeBack_2 rfl 1 rfl ?_
      refine g_sipush C (v := 213) dX7_takeBack_3 (by decide) ?_
      refine g_icmp_ge C 27 dX7_takeBack_6 (by decide) (fun c_7 => ?_) (fun c_7 => ?_)
      · exact absurd c_7 (lc_nle rfl nI_l213 (by omega) (by omega))
      · skip
        refine g_aload_n C dX7_takeBack_9 rfl 0 rfl ?_
        refine g_getf C (T := TX7) (N := 15) 0 0 rfl rfl rfl inX7 1 (by decide) q6_71 rfl dX7_takeBack_10 ?_
        refine g_iload_n C dX7_takeBack_13 rfl 1 rfl ?_
        refine g_aload_n C dX7_takeBack_14 rfl 0 rfl ?_
        refine g_getf C (T := TX7) (N := 15) 0 0 rfl rfl rfl inX7 2 (by decide) q6_72 rfl dX7_takeBack_15 ?_
        refine g_iload_n C dX7_takeBack_18 rfl 1 rfl ?_
        refine g_ialdn C 0 2 i2 rfl rfl rfl (by omega) (by decide) dX7_takeBack_19 ?_
        refine g_iastn C (w1 := wM E am (sE (lpW (fX7_takeBack_L2 μ) μ i2) 0 i2 ((lpW (fX7_takeBack_L2 μ) μ i2).2 1 i2))) (cs1 := [wM E am (sE (lpW (fX7_takeBack_L2 μ) μ i2) 0 i2 ((lpW (fX7_takeBack_L2 μ) μ i2).2 1 i2))]) 0 1 i2 rfl rfl rfl (by omega) (by decide) rfl rfl dX7_takeBack_20 ?_
        refine g_iinc C (v := nI (i2 + 1)) (lv1 := [(1, .int (nI (i2 + 1))), (0, .ref (am 0))]) dX7_takeBack_21 1 rfl (nI_1 i2) (by decide) rfl ?_
        refine g_goto C 2 dX7_takeBack_24 (by decide) ?_
        have e_8 : (lpW (fX7_takeBack_L2 μ) μ (i2 + 1)) = sE (lpW (fX7_takeBack_L2 μ) μ i2) 0 i2 ((lpW (fX7_takeBack_L2 μ) μ i2).2 1 i2) := by
          rw [lpW_1, fX7_takeBack_L2]
        have h_9 := ih_4 (i2 + 1) (by omega)
        rw [e_8] at h_9
        exact g_sub [1, 0] rfl h_9
  refine g_sub [1, 0] (lv1 := [(0, .ref (am 0)), (1, .int 0)]) rfl ?_
  have h_10 := hL_3 213 0 (by omega)
  rw [lpW_0] at h_10
  exact h_10
theorem putAside_eq (μ : BS) : fX7_putAside μ = sA μ 1 (cpW μ 1 0 (μ.2 0) 213) := lp_cp (n := 213) (fun i _ => by rw [Nat.zero_add]; rfl) 213 (Nat.le_refl _)
theorem takeBack_eq (μ : BS) : fX7_takeBack μ = sA μ 0 (cpW μ 0 0 (μ.2 1) 213) := lp_cp (n := 213) (fun i _ => by rw [Nat.zero_add]; rfl) 213 (Nat.le_refl _)
theorem cpW_0 {a : BS} {k i j : Nat} {v : Nat → Int32} (h : j < i) : cpW a k 0 v i j = v j := if_pos (by omega)
theorem vM_takeBack {μ : BS} (h : vM μ) : vM (fX7_takeBack μ) := by
  rw [takeBack_eq]
  exact vM_s h (vS_congr h.2.1.1 fun k hk => cpW_0 hk)
theorem vM_putAside {μ : BS} (h : vM μ) : vM (fX7_putAside μ) := by
  rw [putAside_eq]
  exact ⟨h.1, ⟨vS_congr h.1 fun k hk => cpW_0 hk, h.2.1.2⟩, h.2.2⟩
theorem records_lt {μ : BS} (h : vM μ) (h6 : sm μ < 6) : fX7_records μ = sI (sA μ 2 (cpW μ 2 (213 * sm μ) (μ.2 0) 213)) 1 (nI (sm μ + 1)) := by
  have e2 := h.2.1.2.2.2.2.1
  have e3 : lpW (fX7_records_L52 μ) μ 213 = sA μ 2 (cpW μ 2 (213 * sm μ) (μ.2 0) 213) := lp_cp (n := 213) (fun i _ => rfl) 213 (Nat.le_refl _)
  unfold fX7_records
  rw [if_neg (by rw [e2]; intro c; have := (nI_eq (a := sm μ) (b := 6) (by omega) (by omega)).mp c; omega), e3]
  show sI _ 1 (μ.1 1 + 1) = _
  rw [e2, nI_1]
theorem sI_sA_sI {a : BS} {i k : Nat} {x y : Int32} {f : Nat → Int32} : sI (sA (sI a i x) k f) i y = sI (sA a k f) i y := by
  refine Prod.ext (funext fun j => ?_) rfl
  show (if j = i then y else if j = i then x else a.1 j) = (if j = i then y else a.1 j)
  split <;> rfl
theorem records_6 {μ : BS} (h6 : μ.1 1 = 6) : fX7_records μ = sI (sA (sA μ 2 (cpW μ 2 0 (fun i => μ.2 2 (i + 213)) 1065)) 2 (cpW (sA μ 2 (cpW μ 2 0 (fun i => μ.2 2 (i + 213)) 1065)) 2 1065 (μ.2 0) 213)) 1 6 := by
  have e1 : lpW (fX7_records_L11 μ) μ 1065 = sA μ 2 (cpW μ 2 0 (fun i => μ.2 2 (i + 213)) 1065) := lp_cp (n := 1065) (fun i hi => by
    rw [Nat.zero_add]
    show sE _ 2 i (cpW μ 2 0 (fun i => μ.2 2 (i + 213)) i (i + 213)) = _
    rw [show cpW μ 2 0 (fun i => μ.2 2 (i + 213)) i (i + 213) = μ.2 2 (i + 213) from if_neg (by omega)]) 1065 (Nat.le_refl _)
  unfold fX7_records
  rw [if_pos h6, e1]
  have e5 : (sA μ 2 (cpW μ 2 0 (fun i => μ.2 2 (i + 213)) 1065)).1 1 - 1 = 5 := by show μ.1 1 - 1 = 5; rw [h6]; rfl
  rw [e5]
  have e3 : lpW (fX7_records_L52 μ) (sI (sA μ 2 (cpW μ 2 0 (fun i => μ.2 2 (i + 213)) 1065)) 1 5) 213 = sA (sI (sA μ 2 (cpW μ 2 0 (fun i => μ.2 2 (i + 213)) 1065)) 1 5) 2 (cpW (sI (sA μ 2 (cpW μ 2 0 (fun i => μ.2 2 (i + 213)) 1065)) 1 5) 2 1065 (μ.2 0) 213) := lp_cp (n := 213) (fun i _ => rfl) 213 (Nat.le_refl _)
  rw [e3]
  exact sI_sA_sI
theorem cpW_in {a : BS} {k p i j z : Nat} {v : Nat → Int32} (h : z = p + j) (hj : j < i) : cpW a k p v i z = v j := by
  subst h
  exact (if_pos (by omega)).trans (congrArg v (by omega))
theorem cpW_out {a : BS} {k p i z : Nat} {v : Nat → Int32} (h : z < p ∨ p + i ≤ z) : cpW a k p v i z = a.2 k z := if_neg (by omega)
theorem mul_213 {r s k : Nat} (hk : k < 213) (h : ¬ r = s) : 213 * r + k < 213 * s ∨ 213 * s + 213 ≤ 213 * r + k := by omega
theorem vM_records {μ : BS} (h : vM μ) : vM (fX7_records μ) := by
  obtain ⟨g1, ⟨k1, k2, k3, k4, k5, k6⟩, g3⟩ := h
  rcases Nat.lt_or_ge (sm μ) 6 with c | c
  · rw [records_lt ⟨g1, ⟨k1, k2, k3, k4, k5, k6⟩, g3⟩ c]
    refine ⟨g1, ⟨k1, fun r hr => ?_, k3, ?_, ?_, k6⟩, g3⟩
    · by_cases e : r = sm μ
      · refine vS_congr g1 fun k hk => ?_
        exact cpW_in (by rw [e]) hk
      · refine vS_congr (k2 r hr) fun k hk => ?_
        exact cpW_out (mul_213 hk e)
    · show (nI (sm μ + 1)).toNatClampNeg ≤ 6
      rw [nI_clamp (by omega)]
      omega
    · show nI (sm μ + 1) = nI (nI (sm μ + 1)).toNatClampNeg
      rw [nI_clamp (by omega)]
  · have e6 : μ.1 1 = 6 := by rw [k5, show sm μ = 6 by omega]; rfl
    rw [records_6 e6]
    refine ⟨g1, ⟨k1, fun r hr => ?_, k3, ?_, ?_, k6⟩, g3⟩
    · by_cases e : r = 5
      · refine vS_congr g1 fun k hk => ?_
        exact cpW_in (by rw [e]) hk
      · refine vS_congr (k2 (r + 1) (by omega)) fun k hk => ?_
        refine (cpW_out (by omega)).trans ?_
        show cpW μ 2 0 (fun i => μ.2 2 (i + 213)) 1065 (213 * r + k) = _
        refine (cpW_in (p := 0) (i := 1065) (j := 213 * r + k) (by omega) (by omega)).trans ?_
        exact congrArg (μ.2 2) (by omega)
    · show (6 : Int32).toNatClampNeg ≤ 6
      decide
    · rfl
