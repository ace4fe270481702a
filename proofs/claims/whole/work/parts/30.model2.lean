def fX7_allNeeds_L20 (μ : BS) (t : Nat) (d10 : Nat) (t10 : Int32 × Int32) (i20 : Nat) (t20 : Int32) : Int32 :=
  if ((t20 >>> ((nI i20) &&& 31)) &&& 1) = 1 then t20 ||| (fX7_of μ i20 9) else t20 ||| 0
def fX7_allNeeds_R10 (μ : BS) (t : Nat) : Nat → (Int32 × Int32) → Int32
  | 0, _ => 0
  | d10 + 1, t10 => if t10.1 = t10.2 then t10.1 else fX7_allNeeds_R10 μ t d10 ((lpF (fX7_allNeeds_L20 μ t d10 t10) t10.1 (cM μ)), t10.1)
def fX7_allNeeds_R10_ok (μ : BS) (t : Nat) : Nat → (Int32 × Int32) → Bool
  | 0, _ => false
  | d10 + 1, t10 => if t10.1 = t10.2 then true else fX7_allNeeds_R10_ok μ t d10 ((lpF (fX7_allNeeds_L20 μ t d10 t10) t10.1 (cM μ)), t10.1)
def fX7_allNeeds (μ : BS) (t : Nat) : Int32 :=
  fX7_allNeeds_R10 μ t 35 ((fX7_of μ t 9), (-1))
theorem okAN {μ : BS} {t : Nat} : ∀ (d : Nat) (x y : Int32), (∀ i, i < 32 → bt y i = true → bt x i = true) → 33 ≤ d + pcn (bt y) 32 → fX7_allNeeds_R10_ok μ t d (x, y) = true := by
  intro d
  induction d with
  | zero => intro x y h h2; have := pcn_le (bt y) 32; omega
  | succ d ih =>
    intro x y h h2
    rw [fX7_allNeeds_R10_ok]
    by_cases e : x = y
    · rw [if_pos e]
    · rw [if_neg e]
      refine ih _ _ ?_ ?_
      · intro i hi hb
        refine lpF_inv (P := fun z => bt z i = true) hb (fun j z hz => ?_) (cM μ)
        unfold fX7_allNeeds_L20
        split <;> (rw [bt_or, hz]; rfl)
      · have := bt_grow h (fun q => e q.symm)
        show 33 ≤ d + pcn (bt x) 32
        omega
theorem okAN0 {μ : BS} {t : Nat} {x y : Int32} : fX7_allNeeds_R10_ok μ t 35 (x, y) = true := by
  rw [fX7_allNeeds_R10_ok]
  by_cases e : x = y
  · rw [if_pos e]
  · rw [if_neg e]
    refine okAN 34 _ _ ?_ (by omega)
    intro i hi hb
    refine lpF_inv (P := fun z => bt z i = true) hb (fun j z hz => ?_) (cM μ)
    unfold fX7_allNeeds_L20
    split <;> (rw [bt_or, hz]; rfl)
theorem caX7_allNeeds : gCalV yX7_allNeeds cX7_allNeeds 5 (some .int) 1 := ⟨⟨q6_186, q1_6, by decide +kernel⟩, q6_185, qs_29⟩
set_option maxHeartbeats 4000000 in
set_option maxRecDepth 100000 in
theorem kX7_allNeeds (l : Launch) (E : gE) (am : Nat → Nat) (μ : BS) (hv : vM μ)  (t : Nat) (ht : t < 20) : MC l E yX7_allNeeds cX7_allNeeds 5 (some .int) 1 22 [.ref (am 0), .int (nI t)] [wM E am μ] (some (.int (fX7_allNeeds μ t))) [wM E am μ] := by
  have hv1 : cM μ ≤ 20 := hv.1.1
  have hc0 : μ.2 0 0 = nI (cM μ) := hv.1.2.1
  refine mc_of (by decide +kernel) (Nat.le_of_ble_eq_true rfl) (lv := [(0, .ref (am 0)), (1, .int (nI t))]) rfl (fun X C hE => ?_)
  refine g_aload_n C dX7_allNeeds_0 rfl 0 rfl ?_
  refine g_iload_n C dX7_allNeeds_1 rfl 1 rfl ?_
  refine g_bipush C (v := 9) dX7_allNeeds_2 (by decide) ?_
  refine g_callV C (cs1 := [wM E am μ]) (st1 := [.int (fX7_of μ t 9)]) [.int (nI t), .int 9] [0] (kX7_of l E am μ t (by omega) 9 (by decide)) caX7_of q6_151 rfl ⟨Nat.le_of_ble_eq_true rfl, Nat.le_of_ble_eq_true rfl⟩ ⟨Nat.zero_le _, Nat.zero_le _⟩ 0 0 rfl rfl rfl rfl (by decide) rfl rfl rfl rfl (Nat.le_of_ble_eq_true rfl) dX7_allNeeds_4 rfl ?_
  refine g_istore_n C (lv1 := [(2, .int (fX7_of μ t 9)), (0, .ref (am 0)), (1, .int (nI t))]) dX7_allNeeds_7 rfl (by decide) rfl ?_
  refine g_iconst C (v := -1) dX7_allNeeds_8 (by decide) ?_
  refine g_istore_n C (lv1 := [(3, .int (-1)), (2, .int (fX7_of μ t 9)), (0, .ref (am 0)), (1, .int (nI t))]) dX7_allNeeds_9 rfl (by decide) rfl ?_
  have hL_2 : ∀ d10 : Nat, ∀ t10 : Int32 × Int32, fX7_allNeeds_R10_ok μ t d10 t10 = true → fX7_allNeeds_R10 μ t d10 t10 = fX7_allNeeds μ t → G X 0 0 [wM E am μ] [(0, .ref (am 0)), (1, .int (nI t)), (2, .int t10.1), (3, .int t10.2)] 10 [] := by
    intro d10
    induction d10 with
    | zero =>
      intro t10 hk_5 hq_4
      exact absurd hk_5 (by rw [fX7_allNeeds_R10_ok]; decide)
    | succ d10 ih_3 =>
      intro t10 hk_5 hq_4
      refine g_iload_n C dX7_allNeeds_10 rfl 2 rfl ?_
      refine g_iload_n C dX7_allNeeds_11 rfl 3 rfl ?_
      refine g_icmp_eq C 65 dX7_allNeeds_12 (by decide) (fun c_6 => ?_) (fun c_6 => ?_)
      · skip
        refine g_iload_n C dX7_allNeeds_65 rfl 2 rfl ?_
        have e_7 : fX7_allNeeds μ t = t10.1 := by rw [← hq_4, fX7_allNeeds_R10]; rw [if_pos c_6]
        exact g_iret C hE (by rw [e_7]) rfl dX7_allNeeds_66
      · skip
        refine g_iload_n C dX7_allNeeds_15 rfl 2 rfl ?_
        refine g_istore_n C (lv1 := [(3, .int t10.1), (0, .ref (am 0)), (1, .int (nI t)), (2, .int t10.1)]) dX7_allNeeds_16 rfl (by decide) rfl ?_
        refine g_iconst C (v := 0) dX7_allNeeds_17 (by decide) ?_
        refine g_istore C (lv1 := [(4, .int 0), (3, .int t10.1), (0, .ref (am 0)), (1, .int (nI t)), (2, .int t10.1)]) dX7_allNeeds_18 (by decide) rfl ?_
        have hL_10 : ∀ d_8 i20 : Nat, i20 + d_8 = (cM μ) → G X 0 0 [wM E am μ] [(0, .ref (am 0)), (1, .int (nI t)), (2, .int (lpF (fX7_allNeeds_L20 μ t d10 t10) t10.1 i20)), (3, .int t10.1), (4, .int (nI i20))] 20 [] := by
          intro d_8
          induction d_8 with
          | zero =>
            intro i20 hi_9
            obtain rfl : i20 = (cM μ) := by omega
            refine g_iload C dX7_allNeeds_20 4 rfl ?_
            refine g_aload_n C dX7_allNeeds_22 rfl 0 rfl ?_
            refine g_getf C (T := TX7) (N := 15) 0 0 rfl rfl rfl inX7 1 (by decide) q6_71 rfl dX7_allNeeds_23 ?_
            refine g_iconst C (v := 0) dX7_allNeeds_26 (by decide) ?_
            refine g_ialdn C 0 1 0 rfl rfl rfl (by decide) (by decide) dX7_allNeeds_27 ?_
            refine g_icmp_ge C 62 dX7_allNeeds_28 (by decide) (fun c_12 => ?_) (fun c_12 => ?_)
            · skip
              refine g_goto C 10 dX7_allNeeds_62 (by decide) ?_
              have hk_13 : fX7_allNeeds_R10_ok μ t d10 ((lpF (fX7_allNeeds_L20 μ t d10 t10) t10.1 (cM μ)), t10.1) = true := by
                rw [← hk_5, fX7_allNeeds_R10_ok]; rw [if_neg c_6]
              have e_14 : fX7_allNeeds_R10 μ t d10 ((lpF (fX7_allNeeds_L20 μ t d10 t10) t10.1 (cM μ)), t10.1) = fX7_allNeeds μ t := by
                rw [← hq_4, fX7_allNeeds_R10]; rw [if_neg c_6]
              exact g_sub [0, 1, 2, 3] rfl (ih_3 ((lpF (fX7_allNeeds_L20 μ t d10 t10) t10.1 (cM μ)), t10.1) hk_13 e_14)
            · exact absurd (lc_le rfl hc0 (by omega) (by omega)) c_12
          | succ d_8 ih_11 =>
            intro i20 hi_9
            refine g_iload C dX7_allNeeds_20 4 rfl ?_
            refine g_aload_n C dX7_allNeeds_22 rfl 0 rfl ?_
            refine g_getf C (T := TX7) (N := 15) 0 0 rfl rfl rfl inX7 1 (by decide) q6_71 rfl dX7_allNeeds_23 ?_
            refine g_iconst C (v := 0) dX7_allNeeds_26 (by decide) ?_
            refine g_ialdn C 0 1 0 rfl rfl rfl (by decide) (by decide) dX7_allNeeds_27 ?_
            refine g_icmp_ge C 62 dX7_allNeeds_28 (by decide) (fun c_15 => ?_) (fun c_15 => ?_)
            · exact absurd c_15 (lc_nle rfl hc0 (by omega) (by omega))
            · skip
              refine g_iload_n C dX7_allNeeds_31 rfl 2 rfl ?_
              refine g_iload_n C dX7_allNeeds_32 rfl 2 rfl ?_
              refine g_iload C dX7_allNeeds_33 4 rfl ?_
              refine g_ishr C dX7_allNeeds_35 ?_
              refine g_iconst C (v := 1) dX7_allNeeds_36 (by decide) ?_
              refine g_iand C dX7_allNeeds_37 ?_
              refine g_iconst C (v := 1) dX7_allNeeds_38 (by decide) ?_
              refine g_icmp_ne C 53 dX7_allNeeds_39 (by decide) (fun c_16 => ?_) (fun c_16 => ?_)
              · skip
                refine g_iconst C (v := 0) dX7_allNeeds_53 (by decide) ?_
                refine g_ior C dX7_allNeeds_54 ?_
                refine g_istore_n C (lv1 := [(2, .int ((lpF (fX7_allNeeds_L20 μ t d10 t10) t10.1 i20) ||| 0)), (0, .ref (am 0)), (1, .int (nI t)), (3, .int t10.1), (4, .int (nI i20))]) dX7_allNeeds_55 rfl (by decide) rfl ?_
                refine g_iinc C (v := nI (i20 + 1)) (lv1 := [(4, .int (nI (i20 + 1))), (2, .int ((lpF (fX7_allNeeds_L20 μ t d10 t10) t10.1 i20) ||| 0)), (0, .ref (am 0)), (1, .int (nI t)), (3, .int t10.1)]) dX7_allNeeds_56 4 rfl (nI_1 i20) (by decide) rfl ?_
                refine g_goto C 20 dX7_allNeeds_59 (by decide) ?_
                have e_17 : (lpF (fX7_allNeeds_L20 μ t d10 t10) t10.1 (i20 + 1)) = (lpF (fX7_allNeeds_L20 μ t d10 t10) t10.1 i20) ||| 0 := by
                  rw [lpF_1, fX7_allNeeds_L20]; rw [if_neg c_16]
                have h_18 := ih_11 (i20 + 1) (by omega)
                rw [e_17] at h_18
                exact g_sub [2, 3, 1, 4, 0] rfl h_18
              · skip
                refine g_aload_n C dX7_allNeeds_42 rfl 0 rfl ?_
                refine g_iload C dX7_allNeeds_43 4 rfl ?_
                refine g_bipush C (v := 9) dX7_allNeeds_45 (by decide) ?_
                refine g_callV C (cs1 := [wM E am μ]) (st1 := [.int (fX7_of μ i20 9), .int (lpF (fX7_allNeeds_L20 μ t d10 t10) t10.1 i20)]) [.int (nI i20), .int 9] [0] (kX7_of l E am μ i20 (by omega) 9 (by decide)) caX7_of q6_151 rfl ⟨Nat.le_of_ble_eq_true rfl, Nat.le_of_ble_eq_true rfl⟩ ⟨Nat.zero_le _, Nat.zero_le _⟩ 0 0 rfl rfl rfl rfl (by decide) rfl rfl rfl rfl (Nat.le_of_ble_eq_true rfl) dX7_allNeeds_47 rfl ?_
                refine g_goto C 54 dX7_allNeeds_50 (by decide) ?_
                refine g_ior C dX7_allNeeds_54 ?_
                refine g_istore_n C (lv1 := [(2, .int ((lpF (fX7_allNeeds_L20 μ t d10 t10) t10.1 i20) ||| (fX7_of μ i20 9))), (0, .ref (am 0)), (1, .int (nI t)), (3, .int t10.1), (4, .int (nI i20))]) dX7_allNeeds_55 rfl (by decide) rfl ?_
                refine g_iinc C (v := nI (i20 + 1)) (lv1 := [(4, .int (nI (i20 + 1))), (2, .int ((lpF (fX7_allNeeds_L20 μ t d10 t10) t10.1 i20) ||| (fX7_of μ i20 9))), (0, .ref (am 0)), (1, .int (nI t)), (3, .int t10.1)]) dX7_allNeeds_56 4 rfl (nI_1 i20) (by decide) rfl ?_
                refine g_goto C 20 dX7_allNeeds_59 (by decide) ?_
                have e_19 : (lpF (fX7_allNeeds_L20 μ t d10 t10) t10.1 (i20 + 1)) = (lpF (fX7_allNeeds_L20 μ t d10 t10) t10.1 i20) ||| (fX7_of μ i20 9) := by
                  rw [lpF_1, fX7_allNeeds_L20]; rw [if_pos c_16]
                have h_20 := ih_11 (i20 + 1) (by omega)
                rw [e_19] at h_20
                exact g_sub [2, 3, 1, 4, 0] rfl h_20
        refine g_sub [2, 3, 4, 1, 0] (lv1 := [(0, .ref (am 0)), (1, .int (nI t)), (2, .int t10.1), (3, .int t10.1), (4, .int 0)]) rfl ?_
        exact hL_10 (cM μ) 0 (by omega)
  refine g_sub [2, 3, 1, 0] (lv1 := [(0, .ref (am 0)), (1, .int (nI t)), (2, .int (fX7_of μ t 9)), (3, .int (-1))]) rfl ?_
  have e_21 : fX7_allNeeds_R10 μ t 35 ((fX7_of μ t 9), (-1)) = fX7_allNeeds μ t := by
    rw [fX7_allNeeds]
  exact hL_2 35 ((fX7_of μ t 9), (-1)) okAN0 e_21
def fX7_tellsChains_L62 (μ : BS) (b : Bool) (d13 : Nat) (t13 : Int32 × BS) (i21 : Nat) (t21 : Int32 × BS) (i62 : Nat) (t62 : Int32) : Int32 :=
  if (((fX7_of (t21.2) i21 9) >>> ((nI i62) &&& 31)) &&& 1) = 1 then (if ((t21.2).2 8 i62) ≤ t62 then t62 else (t21.2).2 8 i62) else t62
def fX7_tellsChains_L21 (μ : BS) (b : Bool) (d13 : Nat) (t13 : Int32 × BS) (i21 : Nat) (t21 : Int32 × BS) : Int32 × BS :=
  if (((t21.1) >>> ((nI i21) &&& 31)) &&& 1) = 0 then (if ((fX7_of (t21.2) i21 9) &&& ((t21.1) ^^^ (-1))) = 0 then (if b = true then (if (fX7_isLeft (t21.2) i21) = true then ((t21.1) ||| (1 <<< ((nI i21) &&& 31)), sE (t21.2) 8 i21 ((fX7_of (t21.2) i21 0) + (lpF (fX7_tellsChains_L62 μ b d13 t13 i21 t21) 0 (cM μ)))) else ((t21.1) ||| (1 <<< ((nI i21) &&& 31)), sE (t21.2) 8 i21 (0 + (lpF (fX7_tellsChains_L62 μ b d13 t13 i21 t21) 0 (cM μ))))) else ((t21.1) ||| (1 <<< ((nI i21) &&& 31)), sE (t21.2) 8 i21 (1 + (lpF (fX7_tellsChains_L62 μ b d13 t13 i21 t21) 0 (cM μ))))) else (t21.1, t21.2)) else (t21.1, t21.2)
def fX7_tellsChains_R13 (μ : BS) (b : Bool) : Nat → (Int32 × BS) → BS
  | 0, _ => μ
  | d13 + 1, t13 => if t13.1 = ((1 <<< ((μ.2 0 0) &&& 31)) - 1) then t13.2 else fX7_tellsChains_R13 μ b d13 ((lpF (fX7_tellsChains_L21 μ b d13 t13) (t13.1, t13.2) (cM μ)).1, (lpF (fX7_tellsChains_L21 μ b d13 t13) (t13.1, t13.2) (cM μ)).2)
def fX7_tellsChains_R13_ok (μ : BS) (b : Bool) : Nat → (Int32 × BS) → Bool
  | 0, _ => false
  | d13 + 1, t13 => if t13.1 = ((1 <<< ((μ.2 0 0) &&& 31)) - 1) then true else fX7_tellsChains_R13_ok μ b d13 ((lpF (fX7_tellsChains_L21 μ b d13 t13) (t13.1, t13.2) (cM μ)).1, (lpF (fX7_tellsChains_L21 μ b d13 t13) (t13.1, t13.2) (cM μ)).2)
def fX7_tellsChains (μ : BS) (b : Bool) : BS :=
  fX7_tellsChains_R13 μ b 22 (0, μ)
theorem caX7_tellsChains : gCalV yX7_tellsChains cX7_tellsChains 7 none 1 := ⟨⟨q7_230, q1_6, by decide +kernel⟩, q7_229, qs_54⟩
set_option maxHeartbeats 4000000 in
set_option maxRecDepth 100000 in
theorem kX7_tellsChains (l : Launch) (E : gE) (am : Nat → Nat) (μ : BS) (hv : vM μ)  (b : Bool) (hok : fX7_tellsChains_R13_ok μ b 22 (0, μ) = true) : MC l E yX7_tellsChains cX7_tellsChains 7 none 2 43 [.ref (am 0), .int (b2i b)] [wM E am μ] none [wM E am (fX7_tellsChains μ b)] := by
  have hv1 : cM μ ≤ 20 := hv.1.1
  have hc0 : μ.2 0 0 = nI (cM μ) := hv.1.2.1
  refine mc_of (by decide +kernel) (Nat.le_of_ble_eq_true rfl) (lv := [(0, .ref (am 0)), (1, .int (b2i b))]) rfl (fun X C hE => ?_)
  refine g_iconst C (v := 0) dX7_tellsChains_0 (by decide) ?_
  refine g_istore_n C (lv1 := [(2, .int 0), (0, .ref (am 0)), (1, .int (b2i b))]) dX7_tellsChains_1 rfl (by decide) rfl ?_
  refine g_iconst C (v := 1) dX7_tellsChains_2 (by decide) ?_
  refine g_aload_n C dX7_tellsChains_3 rfl 1 rfl ?_
  refine g_getf C (T := TX7) (N := 15) 0 0 rfl rfl rfl inX7 1 (by decide) q6_71 rfl dX7_tellsChains_4 ?_
  refine g_iconst C (v := 0) dX7_tellsChains_7 (by decide) ?_
  refine g_ialdn C 0 1 0 rfl rfl rfl (by decide) (by decide) dX7_tellsChains_8 ?_
  refine g_ishl C dX7_tellsChains_9 ?_
  refine g_iconst C (v := 1) dX7_tellsChains_10 (by decide) ?_
  refine g_isub C dX7_tellsChains_11 ?_
  refine g_istore_n C (lv1 := [(3, .int ((1 <<< ((μ.2 0 0) &&& 31)) - 1)), (2, .int 0), (0, .ref (am 0)), (1, .int (b2i b))]) dX7_tellsChains_12 rfl (by decide) rfl ?_
  have hL_2 : ∀ d13 : Nat, ∀ t13 : Int32 × BS, fX7_tellsChains_R13_ok μ b d13 t13 = true → eqX 8 μ t13.2 → fX7_tellsChains_R13 μ b d13 t13 = fX7_tellsChains μ b → G X 0 0 [wM E am t13.2] [(0, .ref (am 0)), (1, .int (b2i b)), (2, .int t13.1), (3, .int ((1 <<< ((μ.2 0 0) &&& 31)) - 1))] 13 [] := by
    intro d13
    induction d13 with
    | zero =>
      intro t13 hk_5 hs0 hq_4
      exact absurd hk_5 (by rw [fX7_tellsChains_R13_ok]; decide)
    | succ d13 ih_3 =>
      intro t13 hk_5 hs0 hq_4
      refine g_iload_n C dX7_tellsChains_13 rfl 2 rfl ?_
      refine g_iload_n C dX7_tellsChains_14 rfl 3 rfl ?_
      refine g_icmp_eq C 180 dX7_tellsChains_15 (by decide) (fun c_6 => ?_) (fun c_6 => ?_)
      · skip
        have e_7 : fX7_tellsChains μ b = t13.2 := by rw [← hq_4, fX7_tellsChains_R13]; rw [if_pos c_6]
        exact g_vret C hE rfl (by rw [e_7]) dX7_tellsChains_180
      · skip
        refine g_iconst C (v := 0) dX7_tellsChains_18 (by decide) ?_
        refine g_istore C (lv1 := [(4, .int 0), (0, .ref (am 0)), (1, .int (b2i b)), (2, .int t13.1), (3, .int ((1 <<< ((μ.2 0 0) &&& 31)) - 1))]) dX7_tellsChains_19 (by decide) rfl ?_
        have hL_10 : ∀ d_8 i21 : Nat, i21 + d_8 = (cM μ) → G X 0 0 [wM E am ((lpF (fX7_tellsChains_L21 μ b d13 t13) (t13.1, t13.2) i21).2)] [(0, .ref (am 0)), (1, .int (b2i b)), (2, .int ((lpF (fX7_tellsChains_L21 μ b d13 t13) (t13.1, t13.2) i21).1)), (3, .int ((1 <<< ((μ.2 0 0) &&& 31)) - 1)), (4, .int (nI i21))] 21 [] := by
          intro d_8
          induction d_8 with
          | zero =>
            intro i21 hi_9
            obtain rfl : i21 = (cM μ) := by omega
            have hs1 : eqX 8 μ (lpF (fX7_tellsChains_L21 μ b d13 t13) (t13.1, t13.2) (cM μ)).2 := lpF_inv (f := fX7_tellsChains_L21 μ b d13 t13) (a := (t13.1, t13.2)) (fun x => eqX 8 μ x.2) hs0 (fun i x h => (by unfold fX7_tellsChains_L21; (repeat' split) <;> first | exact h | exact eqX_e h)) (cM μ)
            refine g_iload C dX7_tellsChains_21 4 rfl ?_
            refine g_aload_n C dX7_tellsChains_23 rfl 0 rfl ?_
            refine g_getf C (T := TX7) (N := 15) 0 0 rfl rfl rfl inX7 1 (by decide) q6_71 rfl dX7_tellsChains_24 ?_
            refine g_iconst C (v := 0) dX7_tellsChains_27 (by decide) ?_
            refine g_ialdn C 0 1 0 rfl rfl rfl (by decide) (by decide) dX7_tellsChains_28 ?_
            refine g_icmp_ge C 177 dX7_tellsChains_29 (by decide) (fun c_12 => ?_) (fun c_12 => ?_)
            · skip
              refine g_goto C 13 dX7_tellsChains_177 (by decide) ?_
              have hk_13 : fX7_tellsChains_R13_ok μ b d13 ((lpF (fX7_tellsChains_L21 μ b d13 t13) (t13.1, t13.2) (cM μ)).1, (lpF (fX7_tellsChains_L21 μ b d13 t13) (t13.1, t13.2) (cM μ)).2) = true := by
                rw [← hk_5, fX7_tellsChains_R13_ok]; rw [if_neg c_6]
              have e_14 : fX7_tellsChains_R13 μ b d13 ((lpF (fX7_tellsChains_L21 μ b d13 t13) (t13.1, t13.2) (cM μ)).1, (lpF (fX7_tellsChains_L21 μ b d13 t13) (t13.1, t13.2) (cM μ)).2) = fX7_tellsChains μ b := by
                rw [← hq_4, fX7_tellsChains_R13]; rw [if_neg c_6]
              exact g_sub [0, 1, 2, 3] rfl (ih_3 ((lpF (fX7_tellsChains_L21 μ b d13 t13) (t13.1, t13.2) (cM μ)).1, (lpF (fX7_tellsChains_L21 μ b d13 t13) (t13.1, t13.2) (cM μ)).2) hk_13 hs1 e_14)
            · exact absurd (lc_le rfl (by rw [hs1.2 0 (by decide)]; exact hc0) (by omega) (by omega)) c_12
          | succ d_8 ih_11 =>
            intro i21 hi_9
            have hs1 : eqX 8 μ (lpF (fX7_tellsChains_L21 μ b d13 t13) (t13.1, t13.2) i21).2 := lpF_inv (f := fX7_tellsChains_L21 μ b d13 t13) (a := (t13.1, t13.2)) (fun x => eqX 8 μ x.2) hs0 (fun i x h => (by unfold fX7_tellsChains_L21; (repeat' split) <;> first | exact h | exact eqX_e h)) i21
            refine g_iload C dX7_tellsChains_21 4 rfl ?_
            refine g_aload_n C dX7_tellsChains_23 rfl 0 rfl ?_
            refine g_getf C (T := TX7) (N := 15) 0 0 rfl rfl rfl inX7 1 (by decide) q6_71 rfl dX7_tellsChains_24 ?_
            refine g_iconst C (v := 0) dX7_tellsChains_27 (by decide) ?_
            refine g_ialdn C 0 1 0 rfl rfl rfl (by decide) (by decide) dX7_tellsChains_28 ?_
            refine g_icmp_ge C 177 dX7_tellsChains_29 (by decide) (fun c_15 => ?_) (fun c_15 => ?_)
            · exact absurd c_15 (lc_nle rfl (by rw [hs1.2 0 (by decide)]; exact hc0) (by omega) (by omega))
            · skip
              refine g_iload_n C dX7_tellsChains_32 rfl 2 rfl ?_
              refine g_iload C dX7_tellsChains_33 4 rfl ?_
              refine g_ishr C dX7_tellsChains_35 ?_
              refine g_iconst C (v := 1) dX7_tellsChains_36 (by decide) ?_
              refine g_iand C dX7_tellsChains_37 ?_
              refine g_if_ne C 171 dX7_tellsChains_38 (by decide) (fun c_16 => ?_) (fun c_16 => ?_)
              · skip
                refine g_iinc C (v := nI (i21 + 1)) (lv1 := [(4, .int (nI (i21 + 1))), (0, .ref (am 0)), (1, .int (b2i b)), (2, .int ((lpF (fX7_tellsChains_L21 μ b d13 t13) (t13.1, t13.2) i21).1)), (3, .int ((1 <<< ((μ.2 0 0) &&& 31)) - 1))]) dX7_tellsChains_171 4 rfl (nI_1 i21) (by decide) rfl ?_
                refine g_goto C 21 dX7_tellsChains_174 (by decide) ?_
                have e_17 : (lpF (fX7_tellsChains_L21 μ b d13 t13) (t13.1, t13.2) (i21 + 1)) = ((lpF (fX7_tellsChains_L21 μ b d13 t13) (t13.1, t13.2) i21).1, (lpF (fX7_tellsChains_L21 μ b d13 t13) (t13.1, t13.2) i21).2) := by
                  rw [lpF_1, fX7_tellsChains_L21]; rw [if_neg c_16]
                have h_18 := ih_11 (i21 + 1) (by omega)
                rw [e_17] at h_18
                exact g_sub [1, 2, 3, 4, 0] rfl h_18
              · skip
                refine g_aload_n C dX7_tellsChains_41 rfl 0 rfl ?_
                refine g_iload C dX7_tellsChains_42 4 rfl ?_
                refine g_bipush C (v := 9) dX7_tellsChains_44 (by decide) ?_
                refine g_callV C (cs1 := [wM E am ((lpF (fX7_tellsChains_L21 μ b d13 t13) (t13.1, t13.2) i21).2)]) (st1 := [.int (fX7_of ((lpF (fX7_tellsChains_L21 μ b d13 t13) (t13.1, t13.2) i21).2) i21 9)]) [.int (nI i21), .int 9] [0] (kX7_of l E am ((lpF (fX7_tellsChains_L21 μ b d13 t13) (t13.1, t13.2) i21).2) i21 (by omega) 9 (by decide)) caX7_of q6_151 rfl ⟨Nat.le_of_ble_eq_true rfl, Nat.le_of_ble_eq_true rfl⟩ ⟨Nat.zero_le _, Nat.zero_le _⟩ 0 0 rfl rfl rfl rfl (by decide) rfl rfl rfl rfl (Nat.le_of_ble_eq_true rfl) dX7_tellsChains_46 rfl ?_
                refine g_iload_n C dX7_tellsChains_49 rfl 2 rfl ?_
                refine g_iconst C (v := -1) dX7_tellsChains_50 (by decide) ?_
                refine g_ixor C dX7_tellsChains_51 ?_
                refine g_iand C dX7_tellsChains_52 ?_
                refine g_if_ne C 171 dX7_tellsChains_53 (by decide) (fun c_19 => ?_) (fun c_19 => ?_)
                · skip
                  refine g_iinc C (v := nI (i21 + 1)) (lv1 := [(4, .int (nI (i21 + 1))), (0, .ref (am 0)), (1, .int (b2i b)), (2, .int ((lpF (fX7_tellsChains_L21 μ b d13 t13) (t13.1, t13.2) i21).1)), (3, .int ((1 <<< ((μ.2 0 0) &&& 31)) - 1))]) dX7_tellsChains_171 4 rfl (nI_1 i21) (by decide) rfl ?_
                  refine g_goto C 21 dX7_tellsChains_174 (by decide) ?_
                  have e_20 : (lpF (fX7_tellsChains_L21 μ b d13 t13) (t13.1, t13.2) (i21 + 1)) = ((lpF (fX7_tellsChains_L21 μ b d13 t13) (t13.1, t13.2) i21).1, (lpF (fX7_tellsChains_L21 μ b d13 t13) (t13.1, t13.2) i21).2) := by
                    rw [lpF_1, fX7_tellsChains_L21]; rw [if_pos c_16, if_neg c_19]
                  have h_21 := ih_11 (i21 + 1) (by omega)
                  rw [e_20] at h_21
                  exact g_sub [1, 2, 3, 4, 0] rfl h_21
                · skip
                  refine g_iconst C (v := 0) dX7_tellsChains_56 (by decide) ?_
                  refine g_istore C (lv1 := [(5, .int 0), (0, .ref (am 0)), (1, .int (b2i b)), (2, .int ((lpF (fX7_tellsChains_L21 μ b d13 t13) (t13.1, t13.2) i21).1)), (3, .int ((1 <<< ((μ.2 0 0) &&& 31)) - 1)), (4, .int (nI i21))]) dX7_tellsChains_57 (by decide) rfl ?_
                  refine g_iconst C (v := 0) dX7_tellsChains_59 (by decide) ?_
                  refine g_istore C (lv1 := [(6, .int 0), (5, .int 0), (0, .ref (am 0)), (1, .int (b2i b)), (2, .int ((lpF (fX7_tellsChains_L21 μ b d13 t13) (t13.1, t13.2) i21).1)), (3, .int ((1 <<< ((μ.2 0 0) &&& 31)) - 1)), (4, .int (nI i21))]) dX7_tellsChains_60 (by decide) rfl ?_
                  have hL_24 : ∀ d_22 i62 : Nat, i62 + d_22 = (cM μ) → G X 0 0 [wM E am ((lpF (fX7_tellsChains_L21 μ b d13 t13) (t13.1, t13.2) i21).2)] [(0, .ref (am 0)), (1, .int (b2i b)), (2, .int ((lpF (fX7_tellsChains_L21 μ b d13 t13) (t13.1, t13.2) i21).1)), (3, .int ((1 <<< ((μ.2 0 0) &&& 31)) - 1)), (4, .int (nI i21)), (5, .int (lpF (fX7_tellsChains_L62 μ b d13 t13 i21 (lpF (fX7_tellsChains_L21 μ b d13 t13) (t13.1, t13.2) i21)) 0 i62)), (6, .int (nI i62))] 62 [] := by
                    intro d_22
                    induction d_22 with
                    | zero =>
                      intro i62 hi_23
                      obtain rfl : i62 = (cM μ) := by omega
                      refine g_iload C dX7_tellsChains_62 6 rfl ?_
                      refine g_aload_n C dX7_tellsChains_64 rfl 0 rfl ?_
                      refine g_getf C (T := TX7) (N := 15) 0 0 rfl rfl rfl inX7 1 (by decide) q6_71 rfl dX7_tellsChains_65 ?_
                      refine g_iconst C (v := 0) dX7_tellsChains_68 (by decide) ?_
                      refine g_ialdn C 0 1 0 rfl rfl rfl (by decide) (by decide) dX7_tellsChains_69 ?_
                      refine g_icmp_ge C 122 dX7_tellsChains_70 (by decide) (fun c_26 => ?_) (fun c_26 => ?_)
                      · skip
                        refine g_iload_n C dX7_tellsChains_122 rfl 1 rfl ?_
                        refine g_ifB_eq C 149 dX7_tellsChains_123 (by decide) (fun c_27 => ?_) (fun c_27 => ?_)
                        · skip
                          refine g_iconst C (v := 1) dX7_tellsChains_149 (by decide) ?_
                          refine g_istore C (lv1 := [(6, .int 1), (0, .ref (am 0)), (1, .int (b2i b)), (2, .int ((lpF (fX7_tellsChains_L21 μ b d13 t13) (t13.1, t13.2) i21).1)), (3, .int ((1 <<< ((μ.2 0 0) &&& 31)) - 1)), (4, .int (nI i21)), (5, .int (lpF (fX7_tellsChains_L62 μ b d13 t13 i21 (lpF (fX7_tellsChains_L21 μ b d13 t13) (t13.1, t13.2) i21)) 0 (cM μ)))]) dX7_tellsChains_150 (by decide) rfl ?_
                          refine g_aload_n C dX7_tellsChains_152 rfl 1 rfl ?_
                          refine g_getf C (T := TX7) (N := 15) 0 0 rfl rfl rfl inX7 14 (by decide) q6_84 rfl dX7_tellsChains_153 ?_
                          refine g_iload C dX7_tellsChains_156 5 rfl ?_
                          refine g_iload C dX7_tellsChains_158 0 rfl ?_
                          refine g_iload C dX7_tellsChains_160 6 rfl ?_
                          refine g_iadd C dX7_tellsChains_162 ?_
                          refine g_iastn C (w1 := wM E am (sE ((lpF (fX7_tellsChains_L21 μ b d13 t13) (t13.1, t13.2) i21).2) 8 i21 (1 + (lpF (fX7_tellsChains_L62 μ b d13 t13 i21 (lpF (fX7_tellsChains_L21 μ b d13 t13) (t13.1, t13.2) i21)) 0 (cM μ))))) (cs1 := [wM E am (sE ((lpF (fX7_tellsChains_L21 μ b d13 t13) (t13.1, t13.2) i21).2) 8 i21 (1 + (lpF (fX7_tellsChains_L62 μ b d13 t13 i21 (lpF (fX7_tellsChains_L21 μ b d13 t13) (t13.1, t13.2) i21)) 0 (cM μ))))]) 0 9 i21 rfl rfl rfl (by omega) (by decide) rfl rfl dX7_tellsChains_163 ?_
                          refine g_iload_n C dX7_tellsChains_164 rfl 3 rfl ?_
                          refine g_iconst C (v := 1) dX7_tellsChains_165 (by decide) ?_
                          refine g_iload C dX7_tellsChains_166 5 rfl ?_
                          refine g_ishl C dX7_tellsChains_168 ?_
                          refine g_ior C dX7_tellsChains_169 ?_
                          refine g_istore_n C (lv1 := [(2, .int (((lpF (fX7_tellsChains_L21 μ b d13 t13) (t13.1, t13.2) i21).1) ||| (1 <<< ((nI i21) &&& 31)))), (6, .int 1), (0, .ref (am 0)), (1, .int (b2i b)), (3, .int ((1 <<< ((μ.2 0 0) &&& 31)) - 1)), (4, .int (nI i21)), (5, .int (lpF (fX7_tellsChains_L62 μ b d13 t13 i21 (lpF (fX7_tellsChains_L21 μ b d13 t13) (t13.1, t13.2) i21)) 0 (cM μ)))]) dX7_tellsChains_170 rfl (by decide) rfl ?_
                          refine g_iinc C (v := nI (i21 + 1)) (lv1 := [(4, .int (nI (i21 + 1))), (2, .int (((lpF (fX7_tellsChains_L21 μ b d13 t13) (t13.1, t13.2) i21).1) ||| (1 <<< ((nI i21) &&& 31)))), (6, .int 1), (0, .ref (am 0)), (1, .int (b2i b)), (3, .int ((1 <<< ((μ.2 0 0) &&& 31)) - 1)), (5, .int (lpF (fX7_tellsChains_L62 μ b d13 t13 i21 (lpF (fX7_tellsChains_L21 μ b d13 t13) (t13.1, t13.2) i21)) 0 (cM μ)))]) dX7_tellsChains_171 5 rfl (nI_1 i21) (by decide) rfl ?_
                          refine g_goto C 21 dX7_tellsChains_174 (by decide) ?_
                          have e_28 : (lpF (fX7_tellsChains_L21 μ b d13 t13) (t13.1, t13.2) (i21 + 1)) = (((lpF (fX7_tellsChains_L21 μ b d13 t13) (t13.1, t13.2) i21).1) ||| (1 <<< ((nI i21) &&& 31)), sE ((lpF (fX7_tellsChains_L21 μ b d13 t13) (t13.1, t13.2) i21).2) 8 i21 (1 + (lpF (fX7_tellsChains_L62 μ b d13 t13 i21 (lpF (fX7_tellsChains_L21 μ b d13 t13) (t13.1, t13.2) i21)) 0 (cM μ)))) := by
                            rw [lpF_1, fX7_tellsChains_L21]; rw [if_pos c_16, if_pos c_19, if_neg (ne_true_of_eq_false c_27)]
                          have h_29 := ih_11 (i21 + 1) (by omega)
                          rw [e_28] at h_29
                          exact g_sub [3, 4, 1, 5, 0] rfl h_29
                        · skip
                          refine g_aload_n C dX7_tellsChains_126 rfl 0 rfl ?_
                          refine g_iload C dX7_tellsChains_127 4 rfl ?_
                          refine g_callV C (cs1 := [wM E am ((lpF (fX7_tellsChains_L21 μ b d13 t13) (t13.1, t13.2) i21).2)]) (st1 := [.int (b2i (fX7_isLeft ((lpF (fX7_tellsChains_L21 μ b d13 t13) (t13.1, t13.2) i21).2) i21))]) [.int (nI i21)] [0] (kX7_isLeft l E am ((lpF (fX7_tellsChains_L21 μ b d13 t13) (t13.1, t13.2) i21).2) i21 (by omega)) caX7_isLeft q6_155 rfl ⟨Nat.le_of_ble_eq_true rfl, Nat.le_of_ble_eq_true rfl⟩ ⟨Nat.zero_le _, Nat.zero_le _⟩ 0 0 rfl rfl rfl rfl (by decide) rfl rfl rfl rfl (Nat.le_of_ble_eq_true rfl) dX7_tellsChains_129 rfl ?_
                          refine g_ifB_eq C 145 dX7_tellsChains_132 (by decide) (fun c_30 => ?_) (fun c_30 => ?_)
                          · skip
                            refine g_iconst C (v := 0) dX7_tellsChains_145 (by decide) ?_
                            refine g_goto C 150 dX7_tellsChains_146 (by decide) ?_
                            refine g_istore C (lv1 := [(6, .int 0), (0, .ref (am 0)), (1, .int (b2i b)), (2, .int ((lpF (fX7_tellsChains_L21 μ b d13 t13) (t13.1, t13.2) i21).1)), (3, .int ((1 <<< ((μ.2 0 0) &&& 31)) - 1)), (4, .int (nI i21)), (5, .int (lpF (fX7_tellsChains_L62 μ b d13 t13 i21 (lpF (fX7_tellsChains_L21 μ b d13 t13) (t13.1, t13.2) i21)) 0 (cM μ)))]) dX7_tellsChains_150 (by decide) rfl ?_
                            refine g_aload_n C dX7_tellsChains_152 rfl 1 rfl ?_
                            refine g_getf C (T := TX7) (N := 15) 0 0 rfl rfl rfl inX7 14 (by decide) q6_84 rfl dX7_tellsChains_153 ?_
                            refine g_iload C dX7_tellsChains_156 5 rfl ?_
                            refine g_iload C dX7_tellsChains_158 0 rfl ?_
                            refine g_iload C dX7_tellsChains_160 6 rfl ?_
                            refine g_iadd C dX7_tellsChains_162 ?_
                            refine g_iastn C (w1 := wM E am (sE ((lpF (fX7_tellsChains_L21 μ b d13 t13) (t13.1, t13.2) i21).2) 8 i21 (0 + (lpF (fX7_tellsChains_L62 μ b d13 t13 i21 (lpF (fX7_tellsChains_L21 μ b d13 t13) (t13.1, t13.2) i21)) 0 (cM μ))))) (cs1 := [wM E am (sE ((lpF (fX7_tellsChains_L21 μ b d13 t13) (t13.1, t13.2) i21).2) 8 i21 (0 + (lpF (fX7_tellsChains_L62 μ b d13 t13 i21 (lpF (fX7_tellsChains_L21 μ b d13 t13) (t13.1, t13.2) i21)) 0 (cM μ))))]) 0 9 i21 rfl rfl rfl (by omega) (by decide) rfl rfl dX7_tellsChains_163 ?_
                            refine g_iload_n C dX7_tellsChains_164 rfl 3 rfl ?_
                            refine g_iconst C (v := 1) dX7_tellsChains_165 (by decide) ?_
                            refine g_iload C dX7_tellsChains_166 5 rfl ?_
                            refine g_ishl C dX7_tellsChains_168 ?_
                            refine g_ior C dX7_tellsChains_169 ?_
                            refine g_istore_n C (lv1 := [(2, .int (((lpF (fX7_tellsChains_L21 μ b d13 t13) (t13.1, t13.2) i21).1) ||| (1 <<< ((nI i21) &&& 31)))), (6, .int 0), (0, .ref (am 0)), (1, .int (b2i b)), (3, .int ((1 <<< ((μ.2 0 0) &&& 31)) - 1)), (4, .int (nI i21)), (5, .int (lpF (fX7_tellsChains_L62 μ b d13 t13 i21 (lpF (fX7_tellsChains_L21 μ b d13 t13) (t13.1, t13.2) i21)) 0 (cM μ)))]) dX7_tellsChains_170 rfl (by decide) rfl ?_
                            refine g_iinc C (v := nI (i21 + 1)) (lv1 := [(4, .int (nI (i21 + 1))), (2, .int (((lpF (fX7_tellsChains_L21 μ b d13 t13) (t13.1, t13.2) i21).1) ||| (1 <<< ((nI i21) &&& 31)))), (6, .int 0), (0, .ref (am 0)), (1, .int (b2i b)), (3, .int ((1 <<< ((μ.2 0 0) &&& 31)) - 1)), (5, .int (lpF (fX7_tellsChains_L62 μ b d13 t13 i21 (lpF (fX7_tellsChains_L21 μ b d13 t13) (t13.1, t13.2) i21)) 0 (cM μ)))]) dX7_tellsChains_171 5 rfl (nI_1 i21) (by decide) rfl ?_
                            refine g_goto C 21 dX7_tellsChains_174 (by decide) ?_
                            have e_31 : (lpF (fX7_tellsChains_L21 μ b d13 t13) (t13.1, t13.2) (i21 + 1)) = (((lpF (fX7_tellsChains_L21 μ b d13 t13) (t13.1, t13.2) i21).1) ||| (1 <<< ((nI i21) &&& 31)), sE ((lpF (fX7_tellsChains_L21 μ b d13 t13) (t13.1, t13.2) i21).2) 8 i21 (0 + (lpF (fX7_tellsChains_L62 μ b d13 t13 i21 (lpF (fX7_tellsChains_L21 μ b d13 t13) (t13.1, t13.2) i21)) 0 (cM μ)))) := by
                              rw [lpF_1, fX7_tellsChains_L21]; rw [if_pos c_16, if_pos c_19, if_pos c_27, if_neg (ne_true_of_eq_false c_30)]
                            have h_32 := ih_11 (i21 + 1) (by omega)
                            rw [e_31] at h_32
                            exact g_sub [3, 4, 1, 5, 0] rfl h_32
                          · skip
                            refine g_aload_n C dX7_tellsChains_135 rfl 0 rfl ?_
                            refine g_iload C dX7_tellsChains_136 4 rfl ?_
                            refine g_iconst C (v := 0) dX7_tellsChains_138 (by decide) ?_
                            refine g_callV C (cs1 := [wM E am ((lpF (fX7_tellsChains_L21 μ b d13 t13) (t13.1, t13.2) i21).2)]) (st1 := [.int (fX7_of ((lpF (fX7_tellsChains_L21 μ b d13 t13) (t13.1, t13.2) i21).2) i21 0)]) [.int (nI i21), .int 0] [0] (kX7_of l E am ((lpF (fX7_tellsChains_L21 μ b d13 t13) (t13.1, t13.2) i21).2) i21 (by omega) 0 (by decide)) caX7_of q6_151 rfl ⟨Nat.le_of_ble_eq_true rfl, Nat.le_of_ble_eq_true rfl⟩ ⟨Nat.zero_le _, Nat.zero_le _⟩ 0 0 rfl rfl rfl rfl (by decide) rfl rfl rfl rfl (Nat.le_of_ble_eq_true rfl) dX7_tellsChains_139 rfl ?_
                            refine g_goto C 150 dX7_tellsChains_142 (by decide) ?_
                            refine g_istore C (lv1 := [(6, .int (fX7_of ((lpF (fX7_tellsChains_L21 μ b d13 t13) (t13.1, t13.2) i21).2) i21 0)), (0, .ref (am 0)), (1, .int (b2i b)), (2, .int ((lpF (fX7_tellsChains_L21 μ b d13 t13) (t13.1, t13.2) i21).1)), (3, .int ((1 <<< ((μ.2 0 0) &&& 31)) - 1)), (4, .int (nI i21)), (5, .int (lpF (fX7_tellsChains_L62 μ b d13 t13 i21 (lpF (fX7_tellsChains_L21 μ b d13 t13) (t13.1, t13.2) i21)) 0 (cM μ)))]) dX7_tellsChains_150 (by decide) rfl ?_
                            refine g_aload_n C dX7_tellsChains_152 rfl 1 rfl ?_
                            refine g_getf C (T := TX7) (N := 15) 0 0 rfl rfl rfl inX7 14 (by decide) q6_84 rfl dX7_tellsChains_153 ?_
                            refine g_iload C dX7_tellsChains_156 5 rfl ?_
                            refine g_iload C dX7_tellsChains_158 0 rfl ?_
                            refine g_iload C dX7_tellsChains_160 6 rfl ?_
                            refine g_iadd C dX7_tellsChains_162 ?_
                            refine g_iastn C (w1 := wM E am (sE ((lpF (fX7_tellsChains_L21 μ b d13 t13) (t13.1, t13.2) i21).2) 8 i21 ((fX7_of ((lpF (fX7_tellsChains_L21 μ b d13 t13) (t13.1, t13.2) i21).2) i21 0) + (lpF (fX7_tellsChains_L62 μ b d13 t13 i21 (lpF (fX7_tellsChains_L21 μ b d13 t13) (t13.1, t13.2) i21)) 0 (cM μ))))) (cs1 := [wM E am (sE ((lpF (fX7_tellsChains_L21 μ b d13 t13) (t13.1, t13.2) i21).2) 8 i21 ((fX7_of ((lpF (fX7_tellsChains_L21 μ b d13 t13) (t13.1, t13.2) i21).2) i21 0) + (lpF (fX7_tellsChains_L62 μ b d13 t13 i21 (lpF (fX7_tellsChains_L21 μ b d13 t13) (t13.1, t13.2) i21)) 0 (cM μ))))]) 0 9 i21 rfl rfl rfl (by omega) (by decide) rfl rfl dX7_tellsChains_163 ?_
                            refine g_iload_n C dX7_tellsChains_164 rfl 3 rfl ?_
                            refine g_iconst C (v := 1) dX7_tellsChains_165 (by decide) ?_
                            refine g_iload C dX7_tellsChains_166 5 rfl ?_
                            refine g_ishl C dX7_tellsChains_168 ?_
                            refine g_ior C dX7_tellsChains_169 ?_
                            refine g_istore_n C (lv1 := [(2, .int (((lpF (fX7_tellsChains_L21 μ b d13 t13) (t13.1, t13.2) i21).1) ||| (1 <<< ((nI i21) &&& 31)))), (6, .int (fX7_of ((lpF (fX7_tellsChains_L21 μ b d13 t13) (t13.1, t13.2) i21).2) i21 0)), (0, .ref (am 0)), (1, .int (b2i b)), (3, .int ((1 <<< ((μ.2 0 0) &&& 31)) - 1)), (4, .int (nI i21)), (5, .int (lpF (fX7_tellsChains_L62 μ b d13 t13 i21 (lpF (fX7_tellsChains_L21 μ b d13 t13) (t13.1, t13.2) i21)) 0 (cM μ)))]) dX7_tellsChains_170 rfl (by decide) rfl ?_
                            refine g_iinc C (v := nI (i21 + 1)) (lv1 := [(4, .int (nI (i21 + 1))), (2, .int (((lpF (fX7_tellsChains_L21 μ b d13 t13) (t13.1, t13.2) i21).1) ||| (1 <<< ((nI i21) &&& 31)))), (6, .int (fX7_of ((lpF (fX7_tellsChains_L21 μ b d13 t13) (t13.1, t13.2) i21).2) i21 0)), (0, .ref (am 0)), (1, .int (b2i b)), (3, .int ((1 <<< ((μ.2 0 0) &&& 31)) - 1)), (5, .int (lpF (fX7_tellsChains_L62 μ b d13 t13 i21 (lpF (fX7_tellsChains_L21 μ b d13 t13) (t13.1, t13.2) i21)) 0 (cM μ)))]) dX7_tellsChains_171 5 rfl (nI_1 i21) (by decide) rfl ?_
                            refine g_goto C 21 dX7_tellsChains_174 (by decide) ?_
                            have e_33 : (lpF (fX7_tellsChains_L21 μ b d13 t13) (t13.1, t13.2) (i21 + 1)) = (((lpF (fX7_tellsChains_L21 μ b d13 t13) (t13.1, t13.2) i21).1) ||| (1 <<< ((nI i21) &&& 31)), sE ((lpF (fX7_tellsChains_L21 μ b d13 t13) (t13.1, t13.2) i21).2) 8 i21 ((fX7_of ((lpF (fX7_tellsChains_L21 μ b d13 t13) (t13.1, t13.2) i21).2) i21 0) + (lpF (fX7_tellsChains_L62 μ b d13 t13 i21 (lpF (fX7_tellsChains_L21 μ b d13 t13) (t13.1, t13.2) i21)) 0 (cM μ)))) := by
                              rw [lpF_1, fX7_tellsChains_L21]; rw [if_pos c_16, if_pos c_19, if_pos c_27, if_pos c_30]
                            have h_34 := ih_11 (i21 + 1) (by omega)
                            rw [e_33] at h_34
                            exact g_sub [3, 4, 1, 5, 0] rfl h_34
                      · exact absurd (lc_le rfl (by rw [hs1.2 0 (by decide)]; exact hc0) (by omega) (by omega)) c_26
                    | succ d_22 ih_25 =>
                      intro i62 hi_23
                      refine g_iload C dX7_tellsChains_62 6 rfl ?_
                      refine g_aload_n C dX7_tellsChains_64 rfl 0 rfl ?_
                      refine g_getf C (T := TX7) (N := 15) 0 0 rfl rfl rfl inX7 1 (by decide) q6_71 rfl dX7_tellsChains_65 ?_
                      refine g_iconst C (v := 0) dX7_tellsChains_68 (by decide) ?_
                      refine g_ialdn C 0 1 0 rfl rfl rfl (by decide) (by decide) dX7_tellsChains_69 ?_
                      refine g_icmp_ge C 122 dX7_tellsChains_70 (by decide) (fun c_35 => ?_) (fun c_35 => ?_)
                      · exact absurd c_35 (lc_nle rfl (by rw [hs1.2 0 (by decide)]; exact hc0) (by omega) (by omega))
                      · skip
                        refine g_aload_n C dX7_tellsChains_73 rfl 0 rfl ?_
                        refine g_iload C dX7_tellsChains_74 4 rfl ?_
                        refine g_bipush C (v := 9) dX7_tellsChains_76 (by decide) ?_
                        refine g_callV C (cs1 := [wM E am ((lpF (fX7_tellsChains_L21 μ b d13 t13) (t13.1, t13.2) i21).2)]) (st1 := [.int (fX7_of ((lpF (fX7_tellsChains_L21 μ b d13 t13) (t13.1, t13.2) i21).2) i21 9)]) [.int (nI i21), .int 9] [0] (kX7_of l E am ((lpF (fX7_tellsChains_L21 μ b d13 t13) (t13.1, t13.2) i21).2) i21 (by omega) 9 (by decide)) caX7_of q6_151 rfl ⟨Nat.le_of_ble_eq_true rfl, Nat.le_of_ble_eq_true rfl⟩ ⟨Nat.zero_le _, Nat.zero_le _⟩ 0 0 rfl rfl rfl rfl (by decide) rfl rfl rfl rfl (Nat.le_of_ble_eq_true rfl) dX7_tellsChains_78 rfl ?_
                        refine g_iload C dX7_tellsChains_81 6 rfl ?_
                        refine g_ishr C dX7_tellsChains_83 ?_
                        refine g_iconst C (v := 1) dX7_tellsChains_84 (by decide) ?_
                        refine g_iand C dX7_tellsChains_85 ?_
                        refine g_iconst C (v := 1) dX7_tellsChains_86 (by decide) ?_
                        refine g_icmp_ne C 112 dX7_tellsChains_87 (by decide) (fun c_36 => ?_) (fun c_36 => ?_)
                        · skip
                          refine g_iload C dX7_tellsChains_112 5 rfl ?_
                          refine g_istore C (lv1 := [(5, .int (lpF (fX7_tellsChains_L62 μ b d13 t13 i21 (lpF (fX7_tellsChains_L21 μ b d13 t13) (t13.1, t13.2) i21)) 0 i62)), (0, .ref (am 0)), (1, .int (b2i b)), (2, .int ((lpF (fX7_tellsChains_L21 μ b d13 t13) (t13.1, t13.2) i21).1)), (3, .int ((1 <<< ((μ.2 0 0) &&& 31)) - 1)), (4, .int (nI i21)), (6, .int (nI i62))]) dX7_tellsChains_114 (by decide) rfl ?_
                          refine g_iinc C (v := nI (i62 + 1)) (lv1 := [(6, .int (nI (i62 + 1))), (5, .int (lpF (fX7_tellsChains_L62 μ b d13 t13 i21 (lpF (fX7_tellsChains_L21 μ b d13 t13) (t13.1, t13.2) i21)) 0 i62)), (0, .ref (am 0)), (1, .int (b2i b)), (2, .int ((lpF (fX7_tellsChains_L21 μ b d13 t13) (t13.1, t13.2) i21).1)), (3, .int ((1 <<< ((μ.2 0 0) &&& 31)) - 1)), (4, .int (nI i21))]) dX7_tellsChains_116 6 rfl (nI_1 i62) (by decide) rfl ?_
                          refine g_goto C 62 dX7_tellsChains_119 (by decide) ?_
                          have e_37 : (lpF (fX7_tellsChains_L62 μ b d13 t13 i21 (lpF (fX7_tellsChains_L21 μ b d13 t13) (t13.1, t13.2) i21)) 0 (i62 + 1)) = (lpF (fX7_tellsChains_L62 μ b d13 t13 i21 (lpF (fX7_tellsChains_L21 μ b d13 t13) (t13.1, t13.2) i21)) 0 i62) := by
                            rw [lpF_1, fX7_tellsChains_L62]; rw [if_neg c_36]
                          have h_38 := ih_25 (i62 + 1) (by omega)
                          rw [e_37] at h_38
                          exact g_sub [2, 3, 4, 5, 6, 1, 0] rfl h_38
                        · skip
                          refine g_aload_n C dX7_tellsChains_90 rfl 0 rfl ?_
                          refine g_getf C (T := TX7) (N := 15) 0 0 rfl rfl rfl inX7 14 (by decide) q6_84 rfl dX7_tellsChains_91 ?_
                          refine g_iload C dX7_tellsChains_94 6 rfl ?_
                          refine g_ialdn C 0 9 i62 rfl rfl rfl (by omega) (by decide) dX7_tellsChains_96 ?_
                          refine g_iload C dX7_tellsChains_97 5 rfl ?_
                          refine g_icmp_le C 112 dX7_tellsChains_99 (by decide) (fun c_39 => ?_) (fun c_39 => ?_)
                          · skip
                            refine g_iload C dX7_tellsChains_112 5 rfl ?_
                            refine g_istore C (lv1 := [(5, .int (lpF (fX7_tellsChains_L62 μ b d13 t13 i21 (lpF (fX7_tellsChains_L21 μ b d13 t13) (t13.1, t13.2) i21)) 0 i62)), (0, .ref (am 0)), (1, .int (b2i b)), (2, .int ((lpF (fX7_tellsChains_L21 μ b d13 t13) (t13.1, t13.2) i21).1)), (3, .int ((1 <<< ((μ.2 0 0) &&& 31)) - 1)), (4, .int (nI i21)), (6, .int (nI i62))]) dX7_tellsChains_114 (by decide) rfl ?_
                            refine g_iinc C (v := nI (i62 + 1)) (lv1 := [(6, .int (nI (i62 + 1))), (5, .int (lpF (fX7_tellsChains_L62 μ b d13 t13 i21 (lpF (fX7_tellsChains_L21 μ b d13 t13) (t13.1, t13.2) i21)) 0 i62)), (0, .ref (am 0)), (1, .int (b2i b)), (2, .int ((lpF (fX7_tellsChains_L21 μ b d13 t13) (t13.1, t13.2) i21).1)), (3, .int ((1 <<< ((μ.2 0 0) &&& 31)) - 1)), (4, .int (nI i21))]) dX7_tellsChains_116 6 rfl (nI_1 i62) (by decide) rfl ?_
                            refine g_goto C 62 dX7_tellsChains_119 (by decide) ?_
                            have e_40 : (lpF (fX7_tellsChains_L62 μ b d13 t13 i21 (lpF (fX7_tellsChains_L21 μ b d13 t13) (t13.1, t13.2) i21)) 0 (i62 + 1)) = (lpF (fX7_tellsChains_L62 μ b d13 t13 i21 (lpF (fX7_tellsChains_L21 μ b d13 t13) (t13.1, t13.2) i21)) 0 i62) := by
                              rw [lpF_1, fX7_tellsChains_L62]; rw [if_pos c_36, if_pos c_39]
                            have h_41 := ih_25 (i62 + 1) (by omega)
                            rw [e_40] at h_41
                            exact g_sub [2, 3, 4, 5, 6, 1, 0] rfl h_41
                          · skip
                            refine g_aload_n C dX7_tellsChains_102 rfl 0 rfl ?_
                            refine g_getf C (T := TX7) (N := 15) 0 0 rfl rfl rfl inX7 14 (by decide) q6_84 rfl dX7_tellsChains_103 ?_
                            refine g_iload C dX7_tellsChains_106 6 rfl ?_
                            refine g_ialdn C 0 9 i62 rfl rfl rfl (by omega) (by decide) dX7_tellsChains_108 ?_
                            refine g_goto C 114 dX7_tellsChains_109 (by decide) ?_
                            refine g_istore C (lv1 := [(5, .int (((lpF (fX7_tellsChains_L21 μ b d13 t13) (t13.1, t13.2) i21).2).2 8 i62)), (0, .ref (am 0)), (1, .int (b2i b)), (2, .int ((lpF (fX7_tellsChains_L21 μ b d13 t13) (t13.1, t13.2) i21).1)), (3, .int ((1 <<< ((μ.2 0 0) &&& 31)) - 1)), (4, .int (nI i21)), (6, .int (nI i62))]) dX7_tellsChains_114 (by decide) rfl ?_
                            refine g_iinc C (v := nI (i62 + 1)) (lv1 := [(6, .int (nI (i62 + 1))), (5, .int (((lpF (fX7_tellsChains_L21 μ b d13 t13) (t13.1, t13.2) i21).2).2 8 i62)), (0, .ref (am 0)), (1, .int (b2i b)), (2, .int ((lpF (fX7_tellsChains_L21 μ b d13 t13) (t13.1, t13.2) i21).1)), (3, .int ((1 <<< ((μ.2 0 0) &&& 31)) - 1)), (4, .int (nI i21))]) dX7_tellsChains_116 6 rfl (nI_1 i62) (by decide) rfl ?_
                            refine g_goto C 62 dX7_tellsChains_119 (by decide) ?_
                            have e_42 : (lpF (fX7_tellsChains_L62 μ b d13 t13 i21 (lpF (fX7_tellsChains_L21 μ b d13 t13) (t13.1, t13.2) i21)) 0 (i62 + 1)) = ((lpF (fX7_tellsChains_L21 μ b d13 t13) (t13.1, t13.2) i21).2).2 8 i62 := by
                              rw [lpF_1, fX7_tellsChains_L62]; rw [if_pos c_36, if_neg c_39]
                            have h_43 := ih_25 (i62 + 1) (by omega)
                            rw [e_42] at h_43
                            exact g_sub [2, 3, 4, 5, 6, 1, 0] rfl h_43
                  refine g_sub [2, 3, 4, 5, 6, 1, 0] (lv1 := [(0, .ref (am 0)), (1, .int (b2i b)), (2, .int ((lpF (fX7_tellsChains_L21 μ b d13 t13) (t13.1, t13.2) i21).1)), (3, .int ((1 <<< ((μ.2 0 0) &&& 31)) - 1)), (4, .int (nI i21)), (5, .int 0), (6, .int 0)]) rfl ?_
                  exact hL_24 (cM μ) 0 (by omega)
        refine g_sub [1, 2, 3, 4, 0] (lv1 := [(0, .ref (am 0)), (1, .int (b2i b)), (2, .int t13.1), (3, .int ((1 <<< ((μ.2 0 0) &&& 31)) - 1)), (4, .int 0)]) rfl ?_
        exact hL_10 (cM μ) 0 (by omega)
  refine g_sub [2, 3, 1, 0] (lv1 := [(0, .ref (am 0)), (1, .int (b2i b)), (2, .int 0), (3, .int ((1 <<< ((μ.2 0 0) &&& 31)) - 1))]) rfl ?_
  have e_44 : fX7_tellsChains_R13 μ b 22 (0, μ) = fX7_tellsChains μ b := by
    rw [fX7_tellsChains]
  exact hL_2 22 (0, μ) hok (eqX_refl 8 μ) e_44
theorem tells_x8 (μ : BS) (b : Bool) : eqX 8 μ (fX7_tellsChains μ b) := by
  have key : ∀ d (t : Int32 × BS), eqX 8 μ t.2 → eqX 8 μ (fX7_tellsChains_R13 μ b d t) := by
    intro d
    induction d with
    | zero => intro t _; exact eqX_refl 8 μ
    | succ d ih =>
      intro t h
      rw [fX7_tellsChains_R13]
      split
      · exact h
      · refine ih _ ?_
        exact lpF_inv (P := fun x : Int32 × BS => eqX 8 μ x.2) h (fun i x h => by unfold fX7_tellsChains_L21; (repeat' split) <;> first | exact h | exact eqX_e h) (cM μ)
  exact key _ _ (eqX_refl 8 μ)
def fX7_isAhead (μ : BS) (t : Nat) (u : Nat) : Bool :=
  if (fX7_of μ t 1) = (fX7_of μ u 1) then (if (fX7_of μ u 0) ≤ (fX7_of μ t 0) then false else true) else (if (fX7_of μ t 1) ≤ (fX7_of μ u 1) then false else true)
theorem caX7_isAhead : gCalV yX7_isAhead cX7_isAhead 3 (some .boolean) 2 := ⟨⟨q8_102, q1_6, by decide +kernel⟩, q8_101, qs_66⟩
set_option maxHeartbeats 4000000 in
set_option maxRecDepth 100000 in
theorem kX7_isAhead (l : Launch) (E : gE) (am : Nat → Nat) (μ : BS)  (t : Nat) (ht : t < 20) (u : Nat) (hu : u < 20) : MC l E yX7_isAhead cX7_isAhead 3 (some .boolean) 1 22 [.ref (am 0), .int (nI t), .int (nI u)] [wM E am μ] (some (.int (b2i (fX7_isAhead μ t u)))) [wM E am μ] := by
  refine mc_of (by decide +kernel) (Nat.le_of_ble_eq_true rfl) (lv := [(0, .ref (am 0)), (1, .int (nI t)), (2, .int (nI u))]) rfl (fun X C hE => ?_)
  refine g_aload_n C dX7_isAhead_0 rfl 0 rfl ?_
  refine g_iload_n C dX7_isAhead_1 rfl 1 rfl ?_
  refine g_iconst C (v := 1) dX7_isAhead_2 (by decide) ?_
  refine g_callV C (cs1 := [wM E am μ]) (st1 := [.int (fX7_of μ t 1)]) [.int (nI t), .int 1] [0] (kX7_of l E am μ t (by omega) 1 (by decide)) caX7_of q6_151 rfl ⟨Nat.le_of_ble_eq_true rfl, Nat.le_of_ble_eq_true rfl⟩ ⟨Nat.zero_le _, Nat.zero_le _⟩ 0 0 rfl rfl rfl rfl (by decide) rfl rfl rfl rfl (Nat.le_of_ble_eq_true rfl) dX7_isAhead_3 rfl ?_
  refine g_aload_n C dX7_isAhead_6 rfl 0 rfl ?_
  refine g_iload_n C dX7_isAhead_7 rfl 2 rfl ?_
  refine g_iconst C (v := 1) dX7_isAhead_8 (by decide) ?_
  refine g_callV C (cs1 := [wM E am μ]) (st1 := [.int (fX7_of μ u 1), .int (fX7_of μ t 1)]) [.int (nI u), .int 1] [0] (kX7_of l E am μ u (by omega) 1 (by decide)) caX7_of q6_151 rfl ⟨Nat.le_of_ble_eq_true rfl, Nat.le_of_ble_eq_true rfl⟩ ⟨Nat.zero_le _, Nat.zero_le _⟩ 0 0 rfl rfl rfl rfl (by decide) rfl rfl rfl rfl (Nat.le_of_ble_eq_true rfl) dX7_isAhead_9 rfl ?_
  refine g_icmp_eq C 36 dX7_isAhead_12 (by decide) (fun c_1 => ?_) (fun c_1 => ?_)
  · skip
    refine g_aload_n C dX7_isAhead_36 rfl 0 rfl ?_
    refine g_iload_n C dX7_isAhead_37 rfl 1 rfl ?_
    refine g_iconst C (v := 0) dX7_isAhead_38 (by decide) ?_
    refine g_callV C (cs1 := [wM E am μ]) (st1 := [.int (fX7_of μ t 0)]) [.int (nI t), .int 0] [0] (kX7_of l E am μ t (by omega) 0 (by decide)) caX7_of q6_151 rfl ⟨Nat.le_of_ble_eq_true rfl, Nat.le_of_ble_eq_true rfl⟩ ⟨Nat.zero_le _, Nat.zero_le _⟩ 0 0 rfl rfl rfl rfl (by decide) rfl rfl rfl rfl (Nat.le_of_ble_eq_true rfl) dX7_isAhead_39 rfl ?_
    refine g_aload_n C dX7_isAhead_42 rfl 0 rfl ?_
    refine g_iload_n C dX7_isAhead_43 rfl 2 rfl ?_
    refine g_iconst C (v := 0) dX7_isAhead_44 (by decide) ?_
    refine g_callV C (cs1 := [wM E am μ]) (st1 := [.int (fX7_of μ u 0), .int (fX7_of μ t 0)]) [.int (nI u), .int 0] [0] (kX7_of l E am μ u (by omega) 0 (by decide)) caX7_of q6_151 rfl ⟨Nat.le_of_ble_eq_true rfl, Nat.le_of_ble_eq_true rfl⟩ ⟨Nat.zero_le _, Nat.zero_le _⟩ 0 0 rfl rfl rfl rfl (by decide) rfl rfl rfl rfl (Nat.le_of_ble_eq_true rfl) dX7_isAhead_45 rfl ?_
    refine g_icmp_ge C 55 dX7_isAhead_48 (by decide) (fun c_2 => ?_) (fun c_2 => ?_)
    · skip
      refine g_iconst C (v := 0) dX7_isAhead_55 (by decide) ?_
      have e_3 : fX7_isAhead μ t u = false := by rw [fX7_isAhead]; rw [if_pos c_1, if_pos c_2]
      exact g_zret (b := false) C hE (by rw [e_3]) rfl rfl dX7_isAhead_56
    · skip
      refine g_iconst C (v := 1) dX7_isAhead_51 (by decide) ?_
      refine g_goto C 56 dX7_isAhead_52 (by decide) ?_
      have e_4 : fX7_isAhead μ t u = true := by rw [fX7_isAhead]; rw [if_pos c_1, if_neg c_2]
      exact g_zret (b := true) C hE (by rw [e_4]) rfl rfl dX7_isAhead_56
  · skip
    refine g_aload_n C dX7_isAhead_15 rfl 0 rfl ?_
    refine g_iload_n C dX7_isAhead_16 rfl 1 rfl ?_
    refine g_iconst C (v := 1) dX7_isAhead_17 (by decide) ?_
    refine g_callV C (cs1 := [wM E am μ]) (st1 := [.int (fX7_of μ t 1)]) [.int (nI t), .int 1] [0] (kX7_of l E am μ t (by omega) 1 (by decide)) caX7_of q6_151 rfl ⟨Nat.le_of_ble_eq_true rfl, Nat.le_of_ble_eq_true rfl⟩ ⟨Nat.zero_le _, Nat.zero_le _⟩ 0 0 rfl rfl rfl rfl (by decide) rfl rfl rfl rfl (Nat.le_of_ble_eq_true rfl) dX7_isAhead_18 rfl ?_
    refine g_aload_n C dX7_isAhead_21 rfl 0 rfl ?_
    refine g_iload_n C dX7_isAhead_22 rfl 2 rfl ?_
    refine g_iconst C (v := 1) dX7_isAhead_23 (by decide) ?_
    refine g_callV C (cs1 := [wM E am μ]) (st1 := [.int (fX7_of μ u 1), .int (fX7_of μ t 1)]) [.int (nI u), .int 1] [0] (kX7_of l E am μ u (by omega) 1 (by decide)) caX7_of q6_151 rfl ⟨Nat.le_of_ble_eq_true rfl, Nat.le_of_ble_eq_true rfl⟩ ⟨Nat.zero_le _, Nat.zero_le _⟩ 0 0 rfl rfl rfl rfl (by decide) rfl rfl rfl rfl (Nat.le_of_ble_eq_true rfl) dX7_isAhead_24 rfl ?_
    refine g_icmp_le C 34 dX7_isAhead_27 (by decide) (fun c_5 => ?_) (fun c_5 => ?_)
    · skip
      refine g_iconst C (v := 0) dX7_isAhead_34 (by decide) ?_
      have e_6 : fX7_isAhead μ t u = false := by rw [fX7_isAhead]; rw [if_neg c_1, if_pos c_5]
      exact g_zret (b := false) C hE (by rw [e_6]) rfl rfl dX7_isAhead_35
    · skip
      refine g_iconst C (v := 1) dX7_isAhead_30 (by decide) ?_
      refine g_goto C 35 dX7_isAhead_31 (by decide) ?_
      have e_7 : fX7_isAhead μ t u = true := by rw [fX7_isAhead]; rw [if_neg c_1, if_neg c_5]
      exact g_zret (b := true) C hE (by rw [e_7]) rfl rfl dX7_isAhead_35
theorem okT_m {a : Int32} {i : Nat} (h : okT a) : okT a := h
def fX7_firstOf_L4 (μ : BS) (a : Int32) (i4 : Nat) (t4 : Int32) : Int32 :=
  if ((a >>> ((nI i4) &&& 31)) &&& 1) = 1 then (if t4 = (-1) then nI i4 else (if (fX7_isAhead μ i4 (t4.toNatClampNeg)) = true then nI i4 else t4)) else t4
def fX7_firstOf (μ : BS) (a : Int32) : Int32 :=
  (lpF (fX7_firstOf_L4 μ a) (-1) (cM μ))
theorem caX7_firstOf : gCalV yX7_firstOf cX7_firstOf 4 (some .int) 1 := ⟨⟨q8_98, q1_6, by decide +kernel⟩, q8_97, qs_65⟩
set_option maxHeartbeats 4000000 in
set_option maxRecDepth 100000 in
theorem kX7_firstOf (l : Launch) (E : gE) (am : Nat → Nat) (μ : BS) (hv : vM μ)  (a : Int32) : MC l E yX7_firstOf cX7_firstOf 4 (some .int) 2 44 [.ref (am 0), .int a] [wM E am μ] (some (.int (fX7_firstOf μ a))) [wM E am μ] := by
  have hv1 : cM μ ≤ 20 := hv.1.1
  have hc0 : μ.2 0 0 = nI (cM μ) := hv.1.2.1
  refine mc_of (by decide +kernel) (Nat.le_of_ble_eq_true rfl) (lv := [(0, .ref (am 0)), (1, .int a)]) rfl (fun X C hE => ?_)
  refine g_iconst C (v := -1) dX7_firstOf_0 (by decide) ?_
  refine g_istore_n C (lv1 := [(2, .int (-1)), (0, .ref (am 0)), (1, .int a)]) dX7_firstOf_1 rfl (by decide) rfl ?_
  refine g_iconst C (v := 0) dX7_firstOf_2 (by decide) ?_
  refine g_istore_n C (lv1 := [(3, .int 0), (2, .int (-1)), (0, .ref (am 0)), (1, .int a)]) dX7_firstOf_3 rfl (by decide) rfl ?_
  have hL_3 : ∀ d_1 i4 : Nat, i4 + d_1 = (cM μ) → G X 0 0 [wM E am μ] [(0, .ref (am 0)), (1, .int a), (2, .int (lpF (fX7_firstOf_L4 μ a) (-1) i4)), (3, .int (nI i4))] 4 [] := by
    intro d_1
    induction d_1 with
    | zero =>
      intro i4 hi_2
      obtain rfl : i4 = (cM μ) := by omega
      refine g_iload_n C dX7_firstOf_4 rfl 3 rfl ?_
      refine g_aload_n C dX7_firstOf_5 rfl 0 rfl ?_
      refine g_getf C (T := TX7) (N := 15) 0 0 rfl rfl rfl inX7 1 (by decide) q6_71 rfl dX7_firstOf_6 ?_
      refine g_iconst C (v := 0) dX7_firstOf_9 (by decide) ?_
      refine g_ialdn C 0 1 0 rfl rfl rfl (by decide) (by decide) dX7_firstOf_10 ?_
      refine g_icmp_ge C 49 dX7_firstOf_11 (by decide) (fun c_5 => ?_) (fun c_5 => ?_)
      · skip
        refine g_iload_n C dX7_firstOf_49 rfl 2 rfl ?_
        have e_6 : fX7_firstOf μ a = (lpF (fX7_firstOf_L4 μ a) (-1) (cM μ)) := by rw [fX7_firstOf]
        exact g_iret C hE (by rw [e_6]) rfl dX7_firstOf_50
      · exact absurd (lc_le rfl hc0 (by omega) (by omega)) c_5
    | succ d_1 ih_4 =>
      intro i4 hi_2
      have hf : okT (lpF (fX7_firstOf_L4 μ a) (-1) i4) := lpF_invB (f := fX7_firstOf_L4 μ a) (a := (-1)) okT (cM μ) (Or.inl rfl) (fun i x hi h => by unfold fX7_firstOf_L4; (repeat' split) <;> (first | exact h | exact Or.inr ⟨i, by omega, rfl⟩)) i4 (by omega)
      refine g_iload_n C dX7_firstOf_4 rfl 3 rfl ?_
      refine g_aload_n C dX7_firstOf_5 rfl 0 rfl ?_
      refine g_getf C (T := TX7) (N := 15) 0 0 rfl rfl rfl inX7 1 (by decide) q6_71 rfl dX7_firstOf_6 ?_
      refine g_iconst C (v := 0) dX7_firstOf_9 (by decide) ?_
      refine g_ialdn C 0 1 0 rfl rfl rfl (by decide) (by decide) dX7_firstOf_10 ?_
      refine g_icmp_ge C 49 dX7_firstOf_11 (by decide) (fun c_7 => ?_) (fun c_7 => ?_)
      · exact absurd c_7 (lc_nle rfl hc0 (by omega) (by omega))
      · skip
        refine g_iload_n C dX7_firstOf_14 rfl 1 rfl ?_
        refine g_iload_n C dX7_firstOf_15 rfl 3 rfl ?_
        refine g_ishr C dX7_firstOf_16 ?_
        refine g_iconst C (v := 1) dX7_firstOf_17 (by decide) ?_
        refine g_iand C dX7_firstOf_18 ?_
        refine g_iconst C (v := 1) dX7_firstOf_19 (by decide) ?_
        refine g_icmp_ne C 41 dX7_firstOf_20 (by decide) (fun c_8 => ?_) (fun c_8 => ?_)
        · skip
          refine g_iload_n C dX7_firstOf_41 rfl 2 rfl ?_
          refine g_istore_n C (lv1 := [(2, .int (lpF (fX7_firstOf_L4 μ a) (-1) i4)), (0, .ref (am 0)), (1, .int a), (3, .int (nI i4))]) dX7_firstOf_42 rfl (by decide) rfl ?_
          refine g_iinc C (v := nI (i4 + 1)) (lv1 := [(3, .int (nI (i4 + 1))), (2, .int (lpF (fX7_firstOf_L4 μ a) (-1) i4)), (0, .ref (am 0)), (1, .int a)]) dX7_firstOf_43 3 rfl (nI_1 i4) (by decide) rfl ?_
          refine g_goto C 4 dX7_firstOf_46 (by decide) ?_
          have e_9 : (lpF (fX7_firstOf_L4 μ a) (-1) (i4 + 1)) = (lpF (fX7_firstOf_L4 μ a) (-1) i4) := by
            rw [lpF_1, fX7_firstOf_L4]; rw [if_neg c_8]
          have h_10 := ih_4 (i4 + 1) (by omega)
          rw [e_9] at h_10
          exact g_sub [2, 3, 1, 0] rfl h_10
        · skip
          refine g_iload_n C dX7_firstOf_23 rfl 2 rfl ?_
          refine g_iconst C (v := -1) dX7_firstOf_24 (by decide) ?_
          refine g_icmp_eq C 37 dX7_firstOf_25 (by decide) (fun c_11 => ?_) (fun c_11 => ?_)
          · skip
            refine g_iload_n C dX7_firstOf_37 rfl 3 rfl ?_
            refine g_goto C 42 dX7_firstOf_38 (by decide) ?_
            refine g_istore_n C (lv1 := [(2, .int (nI i4)), (0, .ref (am 0)), (1, .int a), (3, .int (nI i4))]) dX7_firstOf_42 rfl (by decide) rfl ?_
            refine g_iinc C (v := nI (i4 + 1)) (lv1 := [(3, .int (nI (i4 + 1))), (2, .int (nI i4)), (0, .ref (am 0)), (1, .int a)]) dX7_firstOf_43 3 rfl (nI_1 i4) (by decide) rfl ?_
            refine g_goto C 4 dX7_firstOf_46 (by decide) ?_
            have e_12 : (lpF (fX7_firstOf_L4 μ a) (-1) (i4 + 1)) = nI i4 := by
              rw [lpF_1, fX7_firstOf_L4]; rw [if_pos c_8, if_pos c_11]
            have h_13 := ih_4 (i4 + 1) (by omega)
            rw [e_12] at h_13
            exact g_sub [2, 3, 1, 0] rfl h_13
          · skip
            have hj := okT_i hf c_11
            refine g_aload_n C dX7_firstOf_28 rfl 0 rfl ?_
            refine g_iload_n C dX7_firstOf_29 rfl 3 rfl ?_
            refine g_iload_n C dX7_firstOf_30 rfl 2 rfl ?_
            refine g_st (st1 := [.int (nI ((lpF (fX7_firstOf_L4 μ a) (-1) i4).toNatClampNeg)), .int (nI i4), .ref (am 0)]) (by rw [← hj.1]) ?_
            refine g_callV C (cs1 := [wM E am μ]) (st1 := [.int (b2i (fX7_isAhead μ i4 ((lpF (fX7_firstOf_L4 μ a) (-1) i4).toNatClampNeg)))]) [.int (nI i4), .int (nI ((lpF (fX7_firstOf_L4 μ a) (-1) i4).toNatClampNeg))] [0] (kX7_isAhead l E am μ i4 (by omega) ((lpF (fX7_firstOf_L4 μ a) (-1) i4).toNatClampNeg) hj.2) caX7_isAhead q8_99 rfl ⟨Nat.le_of_ble_eq_true rfl, Nat.le_of_ble_eq_true rfl⟩ ⟨Nat.zero_le _, Nat.zero_le _⟩ 0 0 rfl rfl rfl rfl (by decide) rfl rfl rfl rfl (Nat.le_of_ble_eq_true rfl) dX7_firstOf_31 rfl ?_
            refine g_ifB_eq C 41 dX7_firstOf_34 (by decide) (fun c_14 => ?_) (fun c_14 => ?_)
            · skip
              refine g_iload_n C dX7_firstOf_41 rfl 2 rfl ?_
              refine g_istore_n C (lv1 := [(2, .int (lpF (fX7_firstOf_L4 μ a) (-1) i4)), (0, .ref (am 0)), (1, .int a), (3, .int (nI i4))]) dX7_firstOf_42 rfl (by decide) rfl ?_
              refine g_iinc C (v := nI (i4 + 1)) (lv1 := [(3, .int (nI (i4 + 1))), (2, .int (lpF (fX7_firstOf_L4 μ a) (-1) i4)), (0, .ref (am 0)), (1, .int a)]) dX7_firstOf_43 3 rfl (nI_1 i4) (by decide) rfl ?_
              refine g_goto C 4 dX7_firstOf_46 (by decide) ?_
              have e_15 : (lpF (fX7_firstOf_L4 μ a) (-1) (i4 + 1)) = (lpF (fX7_firstOf_L4 μ a) (-1) i4) := by
                rw [lpF_1, fX7_firstOf_L4]; rw [if_pos c_8, if_neg c_11, if_neg (ne_true_of_eq_false c_14)]
              have h_16 := ih_4 (i4 + 1) (by omega)
              rw [e_15] at h_16
              exact g_sub [2, 3, 1, 0] rfl h_16
            · skip
              refine g_iload_n C dX7_firstOf_37 rfl 3 rfl ?_
              refine g_goto C 42 dX7_firstOf_38 (by decide) ?_
              refine g_istore_n C (lv1 := [(2, .int (nI i4)), (0, .ref (am 0)), (1, .int a), (3, .int (nI i4))]) dX7_firstOf_42 rfl (by decide) rfl ?_
              refine g_iinc C (v := nI (i4 + 1)) (lv1 := [(3, .int (nI (i4 + 1))), (2, .int (nI i4)), (0, .ref (am 0)), (1, .int a)]) dX7_firstOf_43 3 rfl (nI_1 i4) (by decide) rfl ?_
              refine g_goto C 4 dX7_firstOf_46 (by decide) ?_
              have e_17 : (lpF (fX7_firstOf_L4 μ a) (-1) (i4 + 1)) = nI i4 := by
                rw [lpF_1, fX7_firstOf_L4]; rw [if_pos c_8, if_neg c_11, if_pos c_14]
              have h_18 := ih_4 (i4 + 1) (by omega)
              rw [e_17] at h_18
              exact g_sub [2, 3, 1, 0] rfl h_18
  refine g_sub [2, 3, 1, 0] (lv1 := [(0, .ref (am 0)), (1, .int a), (2, .int (-1)), (3, .int 0)]) rfl ?_
  exact hL_3 (cM μ) 0 (by omega)
theorem okT_firstM {μ : BS} (hv : vM μ) (a : Int32) : okT (fX7_firstOf μ a) := by
  have h1 := hv.1.1
  have h2 : cM μ ≤ 20 := h1
  rw [fX7_firstOf]
  exact lpF_invB okT (cM μ) (Or.inl rfl) (fun i x hi h => by
    unfold fX7_firstOf_L4
    repeat' split
    all_goals first | exact h | exact Or.inr ⟨i, by omega, rfl⟩) (cM μ) (Nat.le_refl _)
def fX7_next_L4 (μ : BS) (i4 : Nat) (t4 : Int32) : Int32 :=
  if (fX7_of μ i4 2) = 0 then (if (fX7_blockers μ i4) = 0 then t4 ||| (1 <<< ((nI i4) &&& 31)) else t4 ||| 0) else t4 ||| 0
def fX7_next (μ : BS) : Int32 :=
  (fX7_firstOf μ (lpF (fX7_next_L4 μ) 0 (cM μ)))
theorem caX7_next : gCalV yX7_next cX7_next 3 (some .int) 0 := ⟨⟨q8_94, q1_6, by decide +kernel⟩, q8_93, qs_64⟩
set_option maxHeartbeats 4000000 in
set_option maxRecDepth 100000 in
theorem kX7_next (l : Launch) (E : gE) (am : Nat → Nat) (μ : BS) (hv : vM μ)   : MC l E yX7_next cX7_next 3 (some .int) 4 86 [.ref (am 0)] [wM E am μ] (some (.int (fX7_next μ))) [wM E am μ] := by
  have hv1 : cM μ ≤ 20 := hv.1.1
  have hc0 : μ.2 0 0 = nI (cM μ) := hv.1.2.1
  refine mc_of (by decide +kernel) (Nat.le_of_ble_eq_true rfl) (lv := [(0, .ref (am 0))]) rfl (fun X C hE => ?_)
  refine g_iconst C (v := 0) dX7_next_0 (by decide) ?_
  refine g_istore_n C (lv1 := [(1, .int 0), (0, .ref (am 0))]) dX7_next_1 rfl (by decide) rfl ?_
  refine g_iconst C (v := 0) dX7_next_2 (by decide) ?_
  refine g_istore_n C (lv1 := [(2, .int 0), (1, .int 0), (0, .ref (am 0))]) dX7_next_3 rfl (by decide) rfl ?_
  have hL_3 : ∀ d_1 i4 : Nat, i4 + d_1 = (cM μ) → G X 0 0 [wM E am μ] [(0, .ref (am 0)), (1, .int (lpF (fX7_next_L4 μ) 0 i4)), (2, .int (nI i4))] 4 [] := by
    intro d_1
    induction d_1 with
    | zero =>
      intro i4 hi_2
      obtain rfl : i4 = (cM μ) := by omega
      refine g_iload_n C dX7_next_4 rfl 2 rfl ?_
      refine g_aload_n C dX7_next_5 rfl 0 rfl ?_
      refine g_getf C (T := TX7) (N := 15) 0 0 rfl rfl rfl inX7 1 (by decide) q6_71 rfl dX7_next_6 ?_
      refine g_iconst C (v := 0) dX7_next_9 (by decide) ?_
      refine g_ialdn C 0 1 0 rfl rfl rfl (by decide) (by decide) dX7_next_10 ?_
      refine g_icmp_ge C 47 dX7_next_11 (by decide) (fun c_5 => ?_) (fun c_5 => ?_)
      · skip
        refine g_aload_n C dX7_next_47 rfl 0 rfl ?_
        refine g_iload_n C dX7_next_48 rfl 1 rfl ?_
        refine g_callV C (cs1 := [wM E am μ]) (st1 := [.int (fX7_firstOf μ (lpF (fX7_next_L4 μ) 0 (cM μ)))]) [.int (lpF (fX7_next_L4 μ) 0 (cM μ))] [0] (kX7_firstOf l E am μ hv (lpF (fX7_next_L4 μ) 0 (cM μ))) caX7_firstOf q8_95 rfl ⟨Nat.le_of_ble_eq_true rfl, Nat.le_of_ble_eq_true rfl⟩ ⟨Nat.zero_le _, Nat.zero_le _⟩ 0 0 rfl rfl rfl rfl (by decide) rfl rfl rfl rfl (Nat.le_of_ble_eq_true rfl) dX7_next_49 rfl ?_
        have e_6 : fX7_next μ = (fX7_firstOf μ (lpF (fX7_next_L4 μ) 0 (cM μ))) := by rw [fX7_next]
        exact g_iret C hE (by rw [e_6]) rfl dX7_next_52
      · exact absurd (lc_le rfl hc0 (by omega) (by omega)) c_5
    | succ d_1 ih_4 =>
      intro i4 hi_2
      refine g_iload_n C dX7_next_4 rfl 2 rfl ?_
      refine g_aload_n C dX7_next_5 rfl 0 rfl ?_
      refine g_getf C (T := TX7) (N := 15) 0 0 rfl rfl rfl inX7 1 (by decide) q6_71 rfl dX7_next_6 ?_
      refine g_iconst C (v := 0) dX7_next_9 (by decide) ?_
      refine g_ialdn C 0 1 0 rfl rfl rfl (by decide) (by decide) dX7_next_10 ?_
      refine g_icmp_ge C 47 dX7_next_11 (by decide) (fun c_7 => ?_) (fun c_7 => ?_)
      · exact absurd c_7 (lc_nle rfl hc0 (by omega) (by omega))
      · skip
        refine g_iload_n C dX7_next_14 rfl 1 rfl ?_
        refine g_aload_n C dX7_next_15 rfl 0 rfl ?_
        refine g_iload_n C dX7_next_16 rfl 2 rfl ?_
        refine g_iconst C (v := 2) dX7_next_17 (by decide) ?_
        refine g_callV C (cs1 := [wM E am μ]) (st1 := [.int (fX7_of μ i4 2), .int (lpF (fX7_next_L4 μ) 0 i4)]) [.int (nI i4), .int 2] [0] (kX7_of l E am μ i4 (by omega) 2 (by decide)) caX7_of q6_151 rfl ⟨Nat.le_of_ble_eq_true rfl, Nat.le_of_ble_eq_true rfl⟩ ⟨Nat.zero_le _, Nat.zero_le _⟩ 0 0 rfl rfl rfl rfl (by decide) rfl rfl rfl rfl (Nat.le_of_ble_eq_true rfl) dX7_next_18 rfl ?_
        refine g_if_ne C 38 dX7_next_21 (by decide) (fun c_8 => ?_) (fun c_8 => ?_)
        · skip
          refine g_iconst C (v := 0) dX7_next_38 (by decide) ?_
          refine g_ior C dX7_next_39 ?_
          refine g_istore_n C (lv1 := [(1, .int ((lpF (fX7_next_L4 μ) 0 i4) ||| 0)), (0, .ref (am 0)), (2, .int (nI i4))]) dX7_next_40 rfl (by decide) rfl ?_
          refine g_iinc C (v := nI (i4 + 1)) (lv1 := [(2, .int (nI (i4 + 1))), (1, .int ((lpF (fX7_next_L4 μ) 0 i4) ||| 0)), (0, .ref (am 0))]) dX7_next_41 2 rfl (nI_1 i4) (by decide) rfl ?_
          refine g_goto C 4 dX7_next_44 (by decide) ?_
          have e_9 : (lpF (fX7_next_L4 μ) 0 (i4 + 1)) = (lpF (fX7_next_L4 μ) 0 i4) ||| 0 := by
            rw [lpF_1, fX7_next_L4]; rw [if_neg c_8]
          have h_10 := ih_4 (i4 + 1) (by omega)
          rw [e_9] at h_10
          exact g_sub [2, 1, 0] rfl h_10
        · skip
          refine g_aload_n C dX7_next_24 rfl 0 rfl ?_
          refine g_iload_n C dX7_next_25 rfl 2 rfl ?_
          refine g_callV C (cs1 := [wM E am μ]) (st1 := [.int (fX7_blockers μ i4), .int (lpF (fX7_next_L4 μ) 0 i4)]) [.int (nI i4)] [0] (kX7_blockers l E am μ hv i4 (by omega)) caX7_blockers q7_32 rfl ⟨Nat.le_of_ble_eq_true rfl, Nat.le_of_ble_eq_true rfl⟩ ⟨Nat.zero_le _, Nat.zero_le _⟩ 0 0 rfl rfl rfl rfl (by decide) rfl rfl rfl rfl (Nat.le_of_ble_eq_true rfl) dX7_next_26 rfl ?_
          refine g_if_ne C 38 dX7_next_29 (by decide) (fun c_11 => ?_) (fun c_11 => ?_)
          · skip
            refine g_iconst C (v := 0) dX7_next_38 (by decide) ?_
            refine g_ior C dX7_next_39 ?_
            refine g_istore_n C (lv1 := [(1, .int ((lpF (fX7_next_L4 μ) 0 i4) ||| 0)), (0, .ref (am 0)), (2, .int (nI i4))]) dX7_next_40 rfl (by decide) rfl ?_
            refine g_iinc C (v := nI (i4 + 1)) (lv1 := [(2, .int (nI (i4 + 1))), (1, .int ((lpF (fX7_next_L4 μ) 0 i4) ||| 0)), (0, .ref (am 0))]) dX7_next_41 2 rfl (nI_1 i4) (by decide) rfl ?_
            refine g_goto C 4 dX7_next_44 (by decide) ?_
            have e_12 : (lpF (fX7_next_L4 μ) 0 (i4 + 1)) = (lpF (fX7_next_L4 μ) 0 i4) ||| 0 := by
              rw [lpF_1, fX7_next_L4]; rw [if_pos c_8, if_neg c_11]
            have h_13 := ih_4 (i4 + 1) (by omega)
            rw [e_12] at h_13
            exact g_sub [2, 1, 0] rfl h_13
          · skip
            refine g_iconst C (v := 1) dX7_next_32 (by decide) ?_
            refine g_iload_n C dX7_next_33 rfl 2 rfl ?_
            refine g_ishl C dX7_next_34 ?_
            refine g_goto C 39 dX7_next_35 (by decide) ?_
            refine g_ior C dX7_next_39 ?_
            refine g_istore_n C (lv1 := [(1, .int ((lpF (fX7_next_L4 μ) 0 i4) ||| (1 <<< ((nI i4) &&& 31)))), (0, .ref (am 0)), (2, .int (nI i4))]) dX7_next_40 rfl (by decide) rfl ?_
            refine g_iinc C (v := nI (i4 + 1)) (lv1 := [(2, .int (nI (i4 + 1))), (1, .int ((lpF (fX7_next_L4 μ) 0 i4) ||| (1 <<< ((nI i4) &&& 31)))), (0, .ref (am 0))]) dX7_next_41 2 rfl (nI_1 i4) (by decide) rfl ?_
            refine g_goto C 4 dX7_next_44 (by decide) ?_
            have e_14 : (lpF (fX7_next_L4 μ) 0 (i4 + 1)) = (lpF (fX7_next_L4 μ) 0 i4) ||| (1 <<< ((nI i4) &&& 31)) := by
              rw [lpF_1, fX7_next_L4]; rw [if_pos c_8, if_pos c_11]
            have h_15 := ih_4 (i4 + 1) (by omega)
            rw [e_14] at h_15
            exact g_sub [2, 1, 0] rfl h_15
  refine g_sub [2, 1, 0] (lv1 := [(0, .ref (am 0)), (1, .int 0), (2, .int 0)]) rfl ?_
  exact hL_3 (cM μ) 0 (by omega)
def fX7_tellsOrder_L16 (μ : BS) (d7 : Nat) (i7 : Nat) (t7 : Int32 × BS) (i16 : Nat) (t16 : Int32) : Int32 :=
  if ((t7.1 >>> ((nI i16) &&& 31)) &&& 1) = 1 then (if ((fX7_of t7.2 i16 9) &&& t7.1) = 0 then t16 ||| (1 <<< ((nI i16) &&& 31)) else t16 ||| 0) else t16 ||| 0
def fX7_tellsOrder_R7 (μ : BS) : Nat → Nat → (Int32 × BS) → Int32 × BS
  | 0, _, _ => (0, μ)
  | d7 + 1, i7, t7 => if t7.1 = 0 then (nI i7, t7.2) else fX7_tellsOrder_R7 μ d7 (i7 + 1) (t7.1 &&& ((1 <<< (((sE t7.2 7 i7 (fX7_firstOf t7.2 (lpF (fX7_tellsOrder_L16 μ d7 i7 t7) 0 (cM μ)))).2 7 i7) &&& 31)) ^^^ (-1)), sE t7.2 7 i7 (fX7_firstOf t7.2 (lpF (fX7_tellsOrder_L16 μ d7 i7 t7) 0 (cM μ))))
def fX7_tellsOrder_R7_ok (μ : BS) : Nat → Nat → (Int32 × BS) → Bool
  | 0, _, _ => false
  | d7 + 1, i7, t7 => if t7.1 = 0 then true else fX7_tellsOrder_R7_ok μ d7 (i7 + 1) (t7.1 &&& ((1 <<< (((sE t7.2 7 i7 (fX7_firstOf t7.2 (lpF (fX7_tellsOrder_L16 μ d7 i7 t7) 0 (cM μ)))).2 7 i7) &&& 31)) ^^^ (-1)), sE t7.2 7 i7 (fX7_firstOf t7.2 (lpF (fX7_tellsOrder_L16 μ d7 i7 t7) 0 (cM μ))))
def fX7_tellsOrder (μ : BS) : Int32 × BS :=
  fX7_tellsOrder_R7 μ 21 0 ((fX7_left μ), μ)
theorem caX7_tellsOrder : gCalV yX7_tellsOrder cX7_tellsOrder 5 (some .int) 0 := ⟨⟨q8_110, q1_6, by decide +kernel⟩, q8_109, qs_67⟩
set_option maxHeartbeats 4000000 in
set_option maxRecDepth 100000 in
theorem kX7_tellsOrder (l : Launch) (E : gE) (am : Nat → Nat) (μ : BS) (hv : vM μ)   (hok : fX7_tellsOrder_R7_ok μ 21 0 (fX7_left μ, μ) = true) : MC l E yX7_tellsOrder cX7_tellsOrder 5 (some .int) 3 67 [.ref (am 0)] [wM E am μ] (some (.int (fX7_tellsOrder μ).1)) [wM E am ((fX7_tellsOrder μ).2)] := by
  have hv1 : cM μ ≤ 20 := hv.1.1
  have hc0 : μ.2 0 0 = nI (cM μ) := hv.1.2.1
  refine mc_of (by decide +kernel) (Nat.le_of_ble_eq_true rfl) (lv := [(0, .ref (am 0))]) rfl (fun X C hE => ?_)
  refine g_aload_n C dX7_tellsOrder_0 rfl 0 rfl ?_
  refine g_callV C (cs1 := [wM E am μ]) (st1 := [.int (fX7_left μ)]) [] [0] (kX7_left l E am μ hv) caX7_left q7_36 rfl ⟨Nat.le_of_ble_eq_true rfl, Nat.le_of_ble_eq_true rfl⟩ ⟨Nat.zero_le _, Nat.zero_le _⟩ 0 0 rfl rfl rfl rfl (by decide) rfl rfl rfl rfl (Nat.le_of_ble_eq_true rfl) dX7_tellsOrder_1 rfl ?_
  refine g_istore_n C (lv1 := [(1, .int (fX7_left μ)), (0, .ref (am 0))]) dX7_tellsOrder_4 rfl (by decide) rfl ?_
  refine g_iconst C (v := 0) dX7_tellsOrder_5 (by decide) ?_
  refine g_istore_n C (lv1 := [(2, .int 0), (1, .int (fX7_left μ)), (0, .ref (am 0))]) dX7_tellsOrder_6 rfl (by decide) rfl ?_
  have hL_2 : ∀ d7 i7 : Nat, ∀ t7 : Int32 × BS, i7 + d7 = 20 + 1 → i7 ≤ 20 → fX7_tellsOrder_R7_ok μ d7 i7 t7 = true → eqX 7 μ t7.2 → fX7_tellsOrder_R7 μ d7 i7 t7 = fX7_tellsOrder μ → G X 0 0 [wM E am t7.2] [(0, .ref (am 0)), (1, .int t7.1), (2, .int (nI i7))] 7 [] := by
    intro d7
    induction d7 with
    | zero =>
      intro i7 t7 hi_1 hi_1b hk_5 hs0 hq_4
      exact absurd hk_5 (by rw [fX7_tellsOrder_R7_ok]; decide)
    | succ d7 ih_3 =>
      intro i7 t7 hi_1 hi_1b hk_5 hs0 hq_4
      have hd0 : ¬ t7.1 = 0 → i7 < 20 := fun q => by
        rcases Nat.eq_zero_or_pos d7 with h9 | h9
        · rw [fX7_tellsOrder_R7_ok, if_neg q, h9, fX7_tellsOrder_R7_ok] at hk_5; cases hk_5
        · omega
      refine g_iload_n C dX7_tellsOrder_7 rfl 1 rfl ?_
      refine g_if_eq C 97 dX7_tellsOrder_8 (by decide) (fun c_6 => ?_) (fun c_6 => ?_)
      · skip
        refine g_iload_n C dX7_tellsOrder_97 rfl 2 rfl ?_
        have e_7 : fX7_tellsOrder μ = (nI i7, t7.2) := by rw [← hq_4, fX7_tellsOrder_R7]; rw [if_pos c_6]
        exact g_iret C hE (by rw [e_7]) (by rw [e_7]) dX7_tellsOrder_98
      · skip
        have hn := hd0 c_6
        refine g_iconst C (v := 0) dX7_tellsOrder_11 (by decide) ?_
        refine g_istore_n C (lv1 := [(3, .int 0), (0, .ref (am 0)), (1, .int t7.1), (2, .int (nI i7))]) dX7_tellsOrder_12 rfl (by decide) rfl ?_
        refine g_iconst C (v := 0) dX7_tellsOrder_13 (by decide) ?_
        refine g_istore C (lv1 := [(4, .int 0), (3, .int 0), (0, .ref (am 0)), (1, .int t7.1), (2, .int (nI i7))]) dX7_tellsOrder_14 (by decide) rfl ?_
        have hL_10 : ∀ d_8 i16 : Nat, i16 + d_8 = (cM μ) → G X 0 0 [wM E am t7.2] [(0, .ref (am 0)), (1, .int t7.1), (2, .int (nI i7)), (3, .int (lpF (fX7_tellsOrder_L16 μ d7 i7 t7) 0 i16)), (4, .int (nI i16))] 16 [] := by
          intro d_8
          induction d_8 with
          | zero =>
            intro i16 hi_9
            obtain rfl : i16 = (cM μ) := by omega
            refine g_iload C dX7_tellsOrder_16 4 rfl ?_
            refine g_aload_n C dX7_tellsOrder_18 rfl 0 rfl ?_
            refine g_getf C (T := TX7) (N := 15) 0 0 rfl rfl rfl inX7 1 (by decide) q6_71 rfl dX7_tellsOrder_19 ?_
            refine g_iconst C (v := 0) dX7_tellsOrder_22 (by decide) ?_
            refine g_ialdn C 0 1 0 rfl rfl rfl (by decide) (by decide) dX7_tellsOrder_23 ?_
            refine g_icmp_ge C 67 dX7_tellsOrder_24 (by decide) (fun c_12 => ?_) (fun c_12 => ?_)
            · skip
              refine g_aload_n C dX7_tellsOrder_67 rfl 0 rfl ?_
              refine g_getf C (T := TX7) (N := 15) 0 0 rfl rfl rfl inX7 13 (by decide) q6_83 rfl dX7_tellsOrder_68 ?_
              refine g_iload_n C dX7_tellsOrder_71 rfl 2 rfl ?_
              refine g_aload_n C dX7_tellsOrder_72 rfl 0 rfl ?_
              refine g_iload_n C dX7_tellsOrder_73 rfl 3 rfl ?_
              refine g_callV C (cs1 := [wM E am t7.2]) (st1 := [.int (fX7_firstOf t7.2 (lpF (fX7_tellsOrder_L16 μ d7 i7 t7) 0 (cM μ))), .int (nI i7), .ref (am 8)]) [.int (lpF (fX7_tellsOrder_L16 μ d7 i7 t7) 0 (cM μ))] [0] (kX7_firstOf l E am t7.2 (vM_x7 hs0 hv) (lpF (fX7_tellsOrder_L16 μ d7 i7 t7) 0 (cM μ))) caX7_firstOf q8_95 rfl ⟨Nat.le_of_ble_eq_true rfl, Nat.le_of_ble_eq_true rfl⟩ ⟨Nat.zero_le _, Nat.zero_le _⟩ 0 0 rfl rfl rfl rfl (by decide) rfl rfl rfl rfl (Nat.le_of_ble_eq_true rfl) dX7_tellsOrder_74 rfl ?_
              refine g_iastn C (w1 := wM E am (sE t7.2 7 i7 (fX7_firstOf t7.2 (lpF (fX7_tellsOrder_L16 μ d7 i7 t7) 0 (cM μ))))) (cs1 := [wM E am (sE t7.2 7 i7 (fX7_firstOf t7.2 (lpF (fX7_tellsOrder_L16 μ d7 i7 t7) 0 (cM μ))))]) 0 8 i7 rfl rfl rfl (by omega) (by decide) rfl rfl dX7_tellsOrder_77 ?_
              refine g_iload_n C dX7_tellsOrder_78 rfl 1 rfl ?_
              refine g_iconst C (v := 1) dX7_tellsOrder_79 (by decide) ?_
              refine g_aload_n C dX7_tellsOrder_80 rfl 0 rfl ?_
              refine g_getf C (T := TX7) (N := 15) 0 0 rfl rfl rfl inX7 13 (by decide) q6_83 rfl dX7_tellsOrder_81 ?_
              refine g_iload_n C dX7_tellsOrder_84 rfl 2 rfl ?_
              refine g_ialdn C 0 8 i7 rfl rfl rfl (by omega) (by decide) dX7_tellsOrder_85 ?_
              refine g_ishl C dX7_tellsOrder_86 ?_
              refine g_iconst C (v := -1) dX7_tellsOrder_87 (by decide) ?_
              refine g_ixor C dX7_tellsOrder_88 ?_
              refine g_iand C dX7_tellsOrder_89 ?_
              refine g_istore_n C (lv1 := [(1, .int (t7.1 &&& ((1 <<< (((sE t7.2 7 i7 (fX7_firstOf t7.2 (lpF (fX7_tellsOrder_L16 μ d7 i7 t7) 0 (cM μ)))).2 7 i7) &&& 31)) ^^^ (-1)))), (0, .ref (am 0)), (2, .int (nI i7)), (3, .int (lpF (fX7_tellsOrder_L16 μ d7 i7 t7) 0 (cM μ))), (4, .int (nI (cM μ)))]) dX7_tellsOrder_90 rfl (by decide) rfl ?_
              refine g_iinc C (v := nI (i7 + 1)) (lv1 := [(2, .int (nI (i7 + 1))), (1, .int (t7.1 &&& ((1 <<< (((sE t7.2 7 i7 (fX7_firstOf t7.2 (lpF (fX7_tellsOrder_L16 μ d7 i7 t7) 0 (cM μ)))).2 7 i7) &&& 31)) ^^^ (-1)))), (0, .ref (am 0)), (3, .int (lpF (fX7_tellsOrder_L16 μ d7 i7 t7) 0 (cM μ))), (4, .int (nI (cM μ)))]) dX7_tellsOrder_91 2 rfl (nI_1 i7) (by decide) rfl ?_
              refine g_goto C 7 dX7_tellsOrder_94 (by decide) ?_
              have hk_13 : fX7_tellsOrder_R7_ok μ d7 (i7 + 1) (t7.1 &&& ((1 <<< (((sE t7.2 7 i7 (fX7_firstOf t7.2 (lpF (fX7_tellsOrder_L16 μ d7 i7 t7) 0 (cM μ)))).2 7 i7) &&& 31)) ^^^ (-1)), sE t7.2 7 i7 (fX7_firstOf t7.2 (lpF (fX7_tellsOrder_L16 μ d7 i7 t7) 0 (cM μ)))) = true := by
                rw [← hk_5, fX7_tellsOrder_R7_ok]; rw [if_neg c_6]
              have e_14 : fX7_tellsOrder_R7 μ d7 (i7 + 1) (t7.1 &&& ((1 <<< (((sE t7.2 7 i7 (fX7_firstOf t7.2 (lpF (fX7_tellsOrder_L16 μ d7 i7 t7) 0 (cM μ)))).2 7 i7) &&& 31)) ^^^ (-1)), sE t7.2 7 i7 (fX7_firstOf t7.2 (lpF (fX7_tellsOrder_L16 μ d7 i7 t7) 0 (cM μ)))) = fX7_tellsOrder μ := by
                rw [← hq_4, fX7_tellsOrder_R7]; rw [if_neg c_6]
              exact g_sub [2, 1, 0] rfl (ih_3 (i7 + 1) (t7.1 &&& ((1 <<< (((sE t7.2 7 i7 (fX7_firstOf t7.2 (lpF (fX7_tellsOrder_L16 μ d7 i7 t7) 0 (cM μ)))).2 7 i7) &&& 31)) ^^^ (-1)), sE t7.2 7 i7 (fX7_firstOf t7.2 (lpF (fX7_tellsOrder_L16 μ d7 i7 t7) 0 (cM μ)))) (by omega) (by omega) hk_13 (eqX_e hs0) e_14)
            · exact absurd (lc_le rfl (by rw [hs0.2 0 (by decide)]; exact hc0) (by omega) (by omega)) c_12
          | succ d_8 ih_11 =>
            intro i16 hi_9
            refine g_iload C dX7_tellsOrder_16 4 rfl ?_
            refine g_aload_n C dX7_tellsOrder_18 rfl 0 rfl ?_
            refine g_getf C (T := TX7) (N := 15) 0 0 rfl rfl rfl inX7 1 (by decide) q6_71 rfl dX7_tellsOrder_19 ?_
            refine g_iconst C (v := 0) dX7_tellsOrder_22 (by decide) ?_
            refine g_ialdn C 0 1 0 rfl rfl rfl (by decide) (by decide) dX7_tellsOrder_23 ?_
            refine g_icmp_ge C 67 dX7_tellsOrder_24 (by decide) (fun c_15 => ?_) (fun c_15 => ?_)
            · exact absurd c_15 (lc_nle rfl (by rw [hs0.2 0 (by decide)]; exact hc0) (by omega) (by omega))
            · skip
              refine g_iload_n C dX7_tellsOrder_27 rfl 3 rfl ?_
              refine g_iload_n C dX7_tellsOrder_28 rfl 1 rfl ?_
              refine g_iload C dX7_tellsOrder_29 4 rfl ?_
              refine g_ishr C dX7_tellsOrder_31 ?_
              refine g_iconst C (v := 1) dX7_tellsOrder_32 (by decide) ?_
              refine g_iand C dX7_tellsOrder_33 ?_
              refine g_iconst C (v := 1) dX7_tellsOrder_34 (by decide) ?_
              refine g_icmp_ne C 58 dX7_tellsOrder_35 (by decide) (fun c_16 => ?_) (fun c_16 => ?_)
              · skip
                refine g_iconst C (v := 0) dX7_tellsOrder_58 (by decide) ?_
                refine g_ior C dX7_tellsOrder_59 ?_
                refine g_istore_n C (lv1 := [(3, .int ((lpF (fX7_tellsOrder_L16 μ d7 i7 t7) 0 i16) ||| 0)), (0, .ref (am 0)), (1, .int t7.1), (2, .int (nI i7)), (4, .int (nI i16))]) dX7_tellsOrder_60 rfl (by decide) rfl ?_
                refine g_iinc C (v := nI (i16 + 1)) (lv1 := [(4, .int (nI (i16 + 1))), (3, .int ((lpF (fX7_tellsOrder_L16 μ d7 i7 t7) 0 i16) ||| 0)), (0, .ref (am 0)), (1, .int t7.1), (2, .int (nI i7))]) dX7_tellsOrder_61 4 rfl (nI_1 i16) (by decide) rfl ?_
                refine g_goto C 16 dX7_tellsOrder_64 (by decide) ?_
                have e_17 : (lpF (fX7_tellsOrder_L16 μ d7 i7 t7) 0 (i16 + 1)) = (lpF (fX7_tellsOrder_L16 μ d7 i7 t7) 0 i16) ||| 0 := by
                  rw [lpF_1, fX7_tellsOrder_L16]; rw [if_neg c_16]
                have h_18 := ih_11 (i16 + 1) (by omega)
                rw [e_17] at h_18
                exact g_sub [2, 3, 4, 1, 0] rfl h_18
              · skip
                refine g_aload_n C dX7_tellsOrder_38 rfl 0 rfl ?_
                refine g_iload C dX7_tellsOrder_39 4 rfl ?_
                refine g_bipush C (v := 9) dX7_tellsOrder_41 (by decide) ?_
                refine g_callV C (cs1 := [wM E am t7.2]) (st1 := [.int (fX7_of t7.2 i16 9), .int (lpF (fX7_tellsOrder_L16 μ d7 i7 t7) 0 i16)]) [.int (nI i16), .int 9] [0] (kX7_of l E am t7.2 i16 (by omega) 9 (by decide)) caX7_of q6_151 rfl ⟨Nat.le_of_ble_eq_true rfl, Nat.le_of_ble_eq_true rfl⟩ ⟨Nat.zero_le _, Nat.zero_le _⟩ 0 0 rfl rfl rfl rfl (by decide) rfl rfl rfl rfl (Nat.le_of_ble_eq_true rfl) dX7_tellsOrder_43 rfl ?_
                refine g_iload_n C dX7_tellsOrder_46 rfl 1 rfl ?_
                refine g_iand C dX7_tellsOrder_47 ?_
                refine g_if_ne C 58 dX7_tellsOrder_48 (by decide) (fun c_19 => ?_) (fun c_19 => ?_)
                · skip
                  refine g_iconst C (v := 0) dX7_tellsOrder_58 (by decide) ?_
                  refine g_ior C dX7_tellsOrder_59 ?_
                  refine g_istore_n C (lv1 := [(3, .int ((lpF (fX7_tellsOrder_L16 μ d7 i7 t7) 0 i16) ||| 0)), (0, .ref (am 0)), (1, .int t7.1), (2, .int (nI i7)), (4, .int (nI i16))]) dX7_tellsOrder_60 rfl (by decide) rfl ?_
                  refine g_iinc C (v := nI (i16 + 1)) (lv1 := [(4, .int (nI (i16 + 1))), (3, .int ((lpF (fX7_tellsOrder_L16 μ d7 i7 t7) 0 i16) ||| 0)), (0, .ref (am 0)), (1, .int t7.1), (2, .int (nI i7))]) dX7_tellsOrder_61 4 rfl (nI_1 i16) (by decide) rfl ?_
                  refine g_goto C 16 dX7_tellsOrder_64 (by decide) ?_
                  have e_20 : (lpF (fX7_tellsOrder_L16 μ d7 i7 t7) 0 (i16 + 1)) = (lpF (fX7_tellsOrder_L16 μ d7 i7 t7) 0 i16) ||| 0 := by
                    rw [lpF_1, fX7_tellsOrder_L16]; rw [if_pos c_16, if_neg c_19]
                  have h_21 := ih_11 (i16 + 1) (by omega)
                  rw [e_20] at h_21
                  exact g_sub [2, 3, 4, 1, 0] rfl h_21
                · skip
                  refine g_iconst C (v := 1) dX7_tellsOrder_51 (by decide) ?_
                  refine g_iload C dX7_tellsOrder_52 4 rfl ?_
                  refine g_ishl C dX7_tellsOrder_54 ?_
                  refine g_goto C 59 dX7_tellsOrder_55 (by decide) ?_
                  refine g_ior C dX7_tellsOrder_59 ?_
                  refine g_istore_n C (lv1 := [(3, .int ((lpF (fX7_tellsOrder_L16 μ d7 i7 t7) 0 i16) ||| (1 <<< ((nI i16) &&& 31)))), (0, .ref (am 0)), (1, .int t7.1), (2, .int (nI i7)), (4, .int (nI i16))]) dX7_tellsOrder_60 rfl (by decide) rfl ?_
                  refine g_iinc C (v := nI (i16 + 1)) (lv1 := [(4, .int (nI (i16 + 1))), (3, .int ((lpF (fX7_tellsOrder_L16 μ d7 i7 t7) 0 i16) ||| (1 <<< ((nI i16) &&& 31)))), (0, .ref (am 0)), (1, .int t7.1), (2, .int (nI i7))]) dX7_tellsOrder_61 4 rfl (nI_1 i16) (by decide) rfl ?_
                  refine g_goto C 16 dX7_tellsOrder_64 (by decide) ?_
                  have e_22 : (lpF (fX7_tellsOrder_L16 μ d7 i7 t7) 0 (i16 + 1)) = (lpF (fX7_tellsOrder_L16 μ d7 i7 t7) 0 i16) ||| (1 <<< ((nI i16) &&& 31)) := by
                    rw [lpF_1, fX7_tellsOrder_L16]; rw [if_pos c_16, if_pos c_19]
                  have h_23 := ih_11 (i16 + 1) (by omega)
                  rw [e_22] at h_23
                  exact g_sub [2, 3, 4, 1, 0] rfl h_23
        refine g_sub [2, 3, 4, 1, 0] (lv1 := [(0, .ref (am 0)), (1, .int t7.1), (2, .int (nI i7)), (3, .int 0), (4, .int 0)]) rfl ?_
        exact hL_10 (cM μ) 0 (by omega)
  refine g_sub [2, 1, 0] (lv1 := [(0, .ref (am 0)), (1, .int (fX7_left μ)), (2, .int 0)]) rfl ?_
  have e_24 : fX7_tellsOrder_R7 μ 21 0 ((fX7_left μ), μ) = fX7_tellsOrder μ := by
    rw [fX7_tellsOrder]
  exact hL_2 21 0 ((fX7_left μ), μ) (by omega) (by omega) hok (eqX_refl 7 μ) e_24
theorem tells_x7 (μ : BS) : eqX 7 μ (fX7_tellsOrder μ).2 := by
  have key : ∀ d i (t : Int32 × BS), eqX 7 μ t.2 → eqX 7 μ (fX7_tellsOrder_R7 μ d i t).2 := by
    intro d
    induction d with
    | zero => intro i t _; exact eqX_refl 7 μ
    | succ d ih =>
      intro i t h
      rw [fX7_tellsOrder_R7]
      split
      · exact h
      · exact ih _ _ (eqX_e h)
  exact key _ _ _ (eqX_refl 7 μ)
/-- of a row that tells a tracker: the telling of chains and of the order comes to its end -/
def gA (f : Nat → Int32) : Prop := ∀ μ : BS, μ.2 0 = f → (∀ b, fX7_tellsChains_R13_ok μ b 22 (0, μ) = true) ∧ fX7_tellsOrder_R7_ok μ 21 0 (fX7_left μ, μ) = true
def fX7_chainFrom (μ : BS) (t : Nat) : Int32 × BS :=
  ((fX7_tellsChains μ false).2 8 t, (fX7_tellsChains μ false))
theorem caX7_chainFrom : gCalV yX7_chainFrom cX7_chainFrom 2 (some .int) 1 := ⟨⟨q7_226, q1_6, by decide +kernel⟩, q7_225, qs_53⟩
set_option maxHeartbeats 4000000 in
set_option maxRecDepth 100000 in
theorem kX7_chainFrom (l : Launch) (E : gE) (am : Nat → Nat) (μ : BS) (hv : vM μ) (ha : gA (μ.2 0))  (t : Nat) (ht : t < 20) : MC l E yX7_chainFrom cX7_chainFrom 2 (some .int) 3 69 [.ref (am 0), .int (nI t)] [wM E am μ] (some (.int (fX7_chainFrom μ t).1)) [wM E am ((fX7_chainFrom μ t).2)] := by
  have hv1 : cM μ ≤ 20 := hv.1.1
  have hc0 : μ.2 0 0 = nI (cM μ) := hv.1.2.1
  refine mc_of (by decide +kernel) (Nat.le_of_ble_eq_true rfl) (lv := [(0, .ref (am 0)), (1, .int (nI t))]) rfl (fun X C hE => ?_)
  refine g_aload_n C dX7_chainFrom_0 rfl 0 rfl ?_
  refine g_iconst C (v := 0) dX7_chainFrom_1 (by decide) ?_
  refine g_callV C (cs1 := [wM E am (fX7_tellsChains μ false)]) (st1 := []) [.int 0] [0] (kX7_tellsChains l E am μ hv false ((ha _ rfl).1 _)) caX7_tellsChains q7_227 rfl ⟨Nat.le_of_ble_eq_true rfl, Nat.le_of_ble_eq_true rfl⟩ ⟨Nat.zero_le _, Nat.zero_le _⟩ 0 0 rfl rfl rfl rfl (by decide) rfl rfl rfl rfl (Nat.le_of_ble_eq_true rfl) dX7_chainFrom_2 rfl ?_
  refine g_aload_n C dX7_chainFrom_5 rfl 0 rfl ?_
  refine g_getf C (T := TX7) (N := 15) 0 0 rfl rfl rfl inX7 14 (by decide) q6_84 rfl dX7_chainFrom_6 ?_
  refine g_iload_n C dX7_chainFrom_9 rfl 1 rfl ?_
  refine g_ialdn C 0 9 t rfl rfl rfl (by omega) (by decide) dX7_chainFrom_10 ?_
  have e_1 : fX7_chainFrom μ t = ((fX7_tellsChains μ false).2 8 t, (fX7_tellsChains μ false)) := by rw [fX7_chainFrom]
  exact g_iret C hE (by rw [e_1]) (by rw [e_1]) dX7_chainFrom_11
def fX7_critical_L9 (μ : BS) (i9 : Nat) (t9 : Int32) : Int32 :=
  if ((fX7_tellsChains μ true).2 8 i9) ≤ t9 then t9 else (fX7_tellsChains μ true).2 8 i9
def fX7_critical (μ : BS) : Int32 × BS :=
  ((lpF (fX7_critical_L9 μ) 0 (cM μ)), (fX7_tellsChains μ true))
theorem caX7_critical : gCalV yX7_critical cX7_critical 3 (some .int) 0 := ⟨⟨q7_238, q1_6, by decide +kernel⟩, q7_237, qs_55⟩
set_option maxHeartbeats 4000000 in
set_option maxRecDepth 100000 in
theorem kX7_critical (l : Launch) (E : gE) (am : Nat → Nat) (μ : BS) (hv : vM μ) (ha : gA (μ.2 0))   : MC l E yX7_critical cX7_critical 3 (some .int) 3 69 [.ref (am 0)] [wM E am μ] (some (.int (fX7_critical μ).1)) [wM E am ((fX7_critical μ).2)] := by
  have hv1 : cM μ ≤ 20 := hv.1.1
  have hc0 : μ.2 0 0 = nI (cM μ) := hv.1.2.1
  refine mc_of (by decide +kernel) (Nat.le_of_ble_eq_true rfl) (lv := [(0, .ref (am 0))]) rfl (fun X C hE => ?_)
  refine g_aload_n C dX7_critical_0 rfl 0 rfl ?_
  refine g_iconst C (v := 1) dX7_critical_1 (by decide) ?_
  refine g_callV C (cs1 := [wM E am (fX7_tellsChains μ true)]) (st1 := []) [.int 1] [0] (kX7_tellsChains l E am μ hv true ((ha _ rfl).1 _)) caX7_tellsChains q7_227 rfl ⟨Nat.le_of_ble_eq_true rfl, Nat.le_of_ble_eq_true rfl⟩ ⟨Nat.zero_le _, Nat.zero_le _⟩ 0 0 rfl rfl rfl rfl (by decide) rfl rfl rfl rfl (Nat.le_of_ble_eq_true rfl) dX7_critical_2 rfl ?_
  refine g_iconst C (v := 0) dX7_critical_5 (by decide) ?_
  refine g_istore_n C (lv1 := [(1, .int 0), (0, .ref (am 0))]) dX7_critical_6 rfl (by decide) rfl ?_
  refine g_iconst C (v := 0) dX7_critical_7 (by decide) ?_
  refine g_istore_n C (lv1 := [(2, .int 0), (1, .int 0), (0, .ref (am 0))]) dX7_critical_8 rfl (by decide) rfl ?_
  have hL_3 : ∀ d_1 i9 : Nat, i9 + d_1 = (cM μ) → G X 0 0 [wM E am (fX7_tellsChains μ true)] [(0, .ref (am 0)), (1, .int (lpF (fX7_critical_L9 μ) 0 i9)), (2, .int (nI i9))] 9 [] := by
    intro d_1
    induction d_1 with
    | zero =>
      intro i9 hi_2
      obtain rfl : i9 = (cM μ) := by omega
      refine g_iload_n C dX7_critical_9 rfl 2 rfl ?_
      refine g_aload_n C dX7_critical_10 rfl 0 rfl ?_
      refine g_getf C (T := TX7) (N := 15) 0 0 rfl rfl rfl inX7 1 (by decide) q6_71 rfl dX7_critical_11 ?_
      refine g_iconst C (v := 0) dX7_critical_14 (by decide) ?_
      refine g_ialdn C 0 1 0 rfl rfl rfl (by decide) (by decide) dX7_critical_15 ?_
      refine g_icmp_ge C 46 dX7_critical_16 (by decide) (fun c_5 => ?_) (fun c_5 => ?_)
      · skip
        refine g_iload_n C dX7_critical_46 rfl 1 rfl ?_
        have e_6 : fX7_critical μ = ((lpF (fX7_critical_L9 μ) 0 (cM μ)), (fX7_tellsChains μ true)) := by rw [fX7_critical]
        exact g_iret C hE (by rw [e_6]) (by rw [e_6]) dX7_critical_47
      · exact absurd (lc_le rfl (by rw [(tells_x8 μ true).2 0 (by decide)]; exact hc0) (by omega) (by omega)) c_5
    | succ d_1 ih_4 =>
      intro i9 hi_2
      refine g_iload_n C dX7_critical_9 rfl 2 rfl ?_
      refine g_aload_n C dX7_critical_10 rfl 0 rfl ?_
      refine g_getf C (T := TX7) (N := 15) 0 0 rfl rfl rfl inX7 1 (by decide) q6_71 rfl dX7_critical_11 ?_
      refine g_iconst C (v := 0) dX7_critical_14 (by decide) ?_
      refine g_ialdn C 0 1 0 rfl rfl rfl (by decide) (by decide) dX7_critical_15 ?_
      refine g_icmp_ge C 46 dX7_critical_16 (by decide) (fun c_7 => ?_) (fun c_7 => ?_)
      · exact absurd c_7 (lc_nle rfl (by rw [(tells_x8 μ true).2 0 (by decide)]; exact hc0) (by omega) (by omega))
      · skip
        refine g_aload_n C dX7_critical_19 rfl 0 rfl ?_
        refine g_getf C (T := TX7) (N := 15) 0 0 rfl rfl rfl inX7 14 (by decide) q6_84 rfl dX7_critical_20 ?_
        refine g_iload_n C dX7_critical_23 rfl 2 rfl ?_
        refine g_ialdn C 0 9 i9 rfl rfl rfl (by omega) (by decide) dX7_critical_24 ?_
        refine g_iload_n C dX7_critical_25 rfl 1 rfl ?_
        refine g_icmp_le C 38 dX7_critical_26 (by decide) (fun c_8 => ?_) (fun c_8 => ?_)
        · skip
          refine g_iload_n C dX7_critical_38 rfl 1 rfl ?_
          refine g_istore_n C (lv1 := [(1, .int (lpF (fX7_critical_L9 μ) 0 i9)), (0, .ref (am 0)), (2, .int (nI i9))]) dX7_critical_39 rfl (by decide) rfl ?_
          refine g_iinc C (v := nI (i9 + 1)) (lv1 := [(2, .int (nI (i9 + 1))), (1, .int (lpF (fX7_critical_L9 μ) 0 i9)), (0, .ref (am 0))]) dX7_critical_40 2 rfl (nI_1 i9) (by decide) rfl ?_
          refine g_goto C 9 dX7_critical_43 (by decide) ?_
          have e_9 : (lpF (fX7_critical_L9 μ) 0 (i9 + 1)) = (lpF (fX7_critical_L9 μ) 0 i9) := by
            rw [lpF_1, fX7_critical_L9]; rw [if_pos c_8]
          have h_10 := ih_4 (i9 + 1) (by omega)
          rw [e_9] at h_10
          exact g_sub [2, 1, 0] rfl h_10
        · skip
          refine g_aload_n C dX7_critical_29 rfl 0 rfl ?_
          refine g_getf C (T := TX7) (N := 15) 0 0 rfl rfl rfl inX7 14 (by decide) q6_84 rfl dX7_critical_30 ?_
          refine g_iload_n C dX7_critical_33 rfl 2 rfl ?_
          refine g_ialdn C 0 9 i9 rfl rfl rfl (by omega) (by decide) dX7_critical_34 ?_
          refine g_goto C 39 dX7_critical_35 (by decide) ?_
          refine g_istore_n C (lv1 := [(1, .int ((fX7_tellsChains μ true).2 8 i9)), (0, .ref (am 0)), (2, .int (nI i9))]) dX7_critical_39 rfl (by decide) rfl ?_
          refine g_iinc C (v := nI (i9 + 1)) (lv1 := [(2, .int (nI (i9 + 1))), (1, .int ((fX7_tellsChains μ true).2 8 i9)), (0, .ref (am 0))]) dX7_critical_40 2 rfl (nI_1 i9) (by decide) rfl ?_
          refine g_goto C 9 dX7_critical_43 (by decide) ?_
          have e_11 : (lpF (fX7_critical_L9 μ) 0 (i9 + 1)) = (fX7_tellsChains μ true).2 8 i9 := by
            rw [lpF_1, fX7_critical_L9]; rw [if_neg c_8]
          have h_12 := ih_4 (i9 + 1) (by omega)
          rw [e_11] at h_12
          exact g_sub [2, 1, 0] rfl h_12
  refine g_sub [2, 1, 0] (lv1 := [(0, .ref (am 0)), (1, .int 0), (2, .int 0)]) rfl ?_
  exact hL_3 (cM μ) 0 (by omega)
