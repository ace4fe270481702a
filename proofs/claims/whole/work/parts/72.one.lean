/-! ===== following one order ===== -/
theorem iT0 {β μ : BS} (h : AL β μ) (a : Int32) : fX0_hasTicket β a = fX7_isTicket μ a := hasTicket_eq h a
theorem lt_can {ν : BS} {k z : Nat} (e : ν.2 6 k = nI z) (h1 : ¬ nI z = 111) (h2 : ¬ nI z = 101) : fX7_can ν k = if fX7_isTicket ν (ν.2 6 (k + 1)) = true then (if nI z = 97 then (fX7_canAssign ν ((ν.2 6 (k + 1)).toNatClampNeg) ((ν.2 6 (k + 2)).toNatClampNeg)) else (if nI z = 110 then (if (fX7_isTicket ν (ν.2 6 (k + 2))) = true then (if (fX7_canNeed ν ((ν.2 6 (k + 1)).toNatClampNeg) ((ν.2 6 (k + 2)).toNatClampNeg)) = true then true else false) else false) else (if nI z = 114 then (if (fX7_of ν ((ν.2 6 (k + 1)).toNatClampNeg) 2) = 1 then true else false) else (if nI z = 115 then (fX7_canStart ν ((ν.2 6 (k + 1)).toNatClampNeg)) else (fX7_canClose ν ((ν.2 6 (k + 1)).toNatClampNeg)))))) else false := by
  unfold fX7_can
  rw [e, if_neg h1, if_neg h2]
def ST (t ν t' : BS) (b : Bool) (k : Nat) : Prop := b = fX7_can ν k ∧ (b = true → AL t' (fX7_follows ν k)) ∧ (b = false → t' = t)
theorem ST_no {t ν : BS} {k : Nat} (e : fX7_can ν k = false) : ST t ν t false k := ⟨e.symm, (fun q => by cases q), fun _ => rfl⟩
theorem ST_ok {t ν t' : BS} {k : Nat} (e : fX7_can ν k = true) (h : AL t' (fX7_follows ν k)) : ST t ν t' true k := ⟨e.symm, fun _ => h, fun q => by cases q⟩
theorem cl_x {x : Nat} (h : x ≤ 30) : (nI x).toNatClampNeg = x := nI_clamp (by omega)
theorem n_of {t ν : BS} (h : AL t ν) {x : Nat} (hx : x ≤ 30) (c : fX7_isTicket ν (nI x) = true) : x < cM ν := by
  have := (isTicket_n h c).2
  rw [cl_x hx] at this
  exact this
theorem co_97 {t ν : BS} {k x y : Nat} (h : AL t ν) (hv : vM ν) (hx : x ≤ 19) (hy : y ≤ 4) (e0 : ν.2 6 k = nI 97) (e1 : ν.2 6 (k + 1) = nI x) (e2 : ν.2 6 (k + 2) = nI y) : ST t ν (fX2_giveIfPossible t (nI x) (nI y)).2 (fX2_giveIfPossible t (nI x) (nI y)).1 k := by
  have hcan := lt_can e0 (by decide) (by decide)
  rw [e1, e2, cl_x (by omega), cl_x (by omega)] at hcan
  have hfol : fX7_follows ν k = (fX7_assigns ν x y).2 := by
    unfold fX7_follows
    rw [e0, if_pos (show nI 97 = 97 from rfl), e1, e2, cl_x (by omega), cl_x (by omega)]
  have hown : fX6_isOwner (nI y) = true := (in_dec (v := y) (x := 0) (y := 4) (by omega) (by omega) (by omega)).trans (by simp; omega)
  unfold fX2_giveIfPossible
  by_cases c1 : fX7_isTicket ν (nI x) = true
  · have ht := n_of h (by omega) c1
    rw [if_pos c1, if_pos (show nI 97 = 97 from rfl)] at hcan
    rw [if_pos (show fX0_hasTicket t (nI x) = true by rw [iT0 h]; exact c1), if_pos hown, cl_x (by omega), cl_x (by omega)]
    by_cases c2 : fX0_canBeGivenTo t x y = true
    · rw [if_pos c2]
      refine ST_ok (hcan.trans ((iGive h ht (by omega)).mp c2)) ?_
      rw [hfol]
      exact ⟨vB_giveTo h.1 (by omega), (vM_assigns hv (by omega)).1, give_RBx h ht (by omega) c2⟩
    · rw [if_neg c2]
      exact ST_no (hcan.trans (tf_of (fun q => c2 ((iGive h ht (by omega)).mpr q))))
  · rw [if_neg c1] at hcan
    rw [if_neg (show ¬ fX0_hasTicket t (nI x) = true by rw [iT0 h]; exact c1)]
    exact ST_no hcan
theorem co_110 {t ν : BS} {k x y : Nat} (h : AL t ν) (hv : vM ν) (hx : x ≤ 19) (hy : y ≤ 19) (e0 : ν.2 6 k = nI 110) (e1 : ν.2 6 (k + 1) = nI x) (e2 : ν.2 6 (k + 2) = nI y) : ST t ν (fX2_needIfPossible t (nI x) (nI y)).2 (fX2_needIfPossible t (nI x) (nI y)).1 k := by
  have hcan := lt_can e0 (by decide) (by decide)
  rw [e1, e2, cl_x (by omega), cl_x (by omega), if_neg (show ¬ nI 110 = 97 by decide), if_pos (show nI 110 = 110 from rfl)] at hcan
  have hfol : fX7_follows ν k = (fX7_takesNeed ν x (nI y)).2 := by
    unfold fX7_follows
    rw [e0, if_neg (show ¬ nI 110 = 97 by decide), if_neg (show ¬ nI 110 = 101 by decide), if_pos (show nI 110 = 110 from rfl), e1, e2, cl_x (by omega)]
  unfold fX2_needIfPossible
  by_cases c1 : fX7_isTicket ν (nI x) = true
  · have ht := n_of h (by omega) c1
    rw [if_pos c1] at hcan
    rw [if_pos (show fX0_hasTicket t (nI x) = true by rw [iT0 h]; exact c1)]
    by_cases c2 : fX7_isTicket ν (nI y) = true
    · have hu := n_of h (by omega) c2
      rw [if_pos c2] at hcan
      rw [if_pos (show fX0_hasTicket t (nI y) = true by rw [iT0 h]; exact c2)]
      by_cases c3 : nI x = nI y
      · rw [if_pos c3]
        refine ST_no (hcan.trans ?_)
        unfold fX7_canNeed
        rw [if_pos c3]
        rfl
      · have hne : ¬ x = y := fun q => c3 (congrArg nI q)
        rw [if_neg c3, cl_x (by omega), cl_x (by omega)]
        by_cases c4 : fX0_canNeed t x y = true
        · have c5 := (iNeed h ht hu hne).mp c4
          rw [if_pos c4]
          obtain ⟨q1, q2, q3⟩ := can_need h ht hu c5
          refine ST_ok (hcan.trans (if_pos c5)) ?_
          rw [hfol]
          exact ⟨vB_addNeed (t := x) (u := nI y) h.1, (vM_takesx (t := x) (u := nI y) hv).1, need_RBx h ht hu rfl q1 q2 q3⟩
        · rw [if_neg c4]
          exact ST_no (hcan.trans (if_neg (fun q => c4 ((iNeed h ht hu hne).mpr q))))
    · rw [if_neg c2] at hcan
      rw [if_neg (show ¬ fX0_hasTicket t (nI y) = true by rw [iT0 h]; exact c2)]
      exact ST_no hcan
  · rw [if_neg c1] at hcan
    rw [if_neg (show ¬ fX0_hasTicket t (nI x) = true by rw [iT0 h]; exact c1)]
    exact ST_no hcan
theorem co_111 {t ν : BS} {k x y : Nat} (h : AL t ν) (hv : vM ν) (hx : 1 ≤ x ∧ x ≤ 13) (e0 : ν.2 6 k = nI 111) (e1 : ν.2 6 (k + 1) = nI x) (e2 : ν.2 6 (k + 2) = nI y) : ST t ν (fX2_openIfPossible t (nI x) (nI y)).2 (fX2_openIfPossible t (nI x) (nI y)).1 k := by
  have hcan : fX7_can ν k = if 20 ≤ ν.2 0 0 then false else true := by
    unfold fX7_can
    rw [e0, if_pos (show nI 111 = 111 from rfl)]
  have hfol : fX7_follows ν k = (fX7_opens ν (nI x) (nI y)).2 := by
    unfold fX7_follows
    rw [e0, if_neg (show ¬ nI 111 = 97 by decide), if_neg (show ¬ nI 111 = 101 by decide), if_neg (show ¬ nI 111 = 110 by decide), if_pos (show nI 111 = 111 from rfl), e1, e2]
  have hr : fX0_hasRoom t = fX7_can ν k := by
    rw [hcan]
    unfold fX0_hasRoom
    rw [h.b.1.1]
  unfold fX2_openIfPossible
  by_cases c : fX0_hasRoom t = true
  · rw [if_pos c, c]
    have hlt : cM ν < 20 := by rw [← h.n]; exact hasRoom_lt h.1 c
    refine ST_ok (hr.symm.trans c) ?_
    rw [hfol]
    exact ⟨vB_addTicket (p := nI x) (z := nI y) h.1 (hasRoom_lt h.1 c), (vM_opens (p := nI x) (z := nI y) hv hlt).1, open_RB (p := nI x) (z := nI y) h hlt ⟨x, hx.1, hx.2, rfl⟩⟩
  · rw [if_neg c, tf_of c]
    exact ST_no (hr.symm.trans (tf_of c))
theorem co_101 {t ν : BS} {k x : Nat} (h : AL t ν) (hv : vM ν) (hx : 1 ≤ x ∧ x ≤ 30) (e0 : ν.2 6 k = nI 101) (e1 : ν.2 6 (k + 1) = nI x) : ST t ν (fX2_passIfPossible t (nI x)).2 (fX2_passIfPossible t (nI x)).1 k := by
  have hcan : fX7_can ν k = if 999 < ν.2 0 1 + nI x then false else true := by
    unfold fX7_can
    rw [e0, if_neg (show ¬ nI 101 = 111 by decide), if_pos (show nI 101 = 101 from rfl), e1]
  have hfol : fX7_follows ν k = (fX7_ends ν (nI x)).2 := by
    unfold fX7_follows
    rw [e0, if_neg (show ¬ nI 101 = 97 by decide), if_pos (show nI 101 = 101 from rfl), e1]
  have hr : fX0_canPass t (nI x) = fX7_can ν k := by
    rw [hcan]
    unfold fX0_canPass
    rw [h.b.1.2.1]
  unfold fX2_passIfPossible
  by_cases c : fX0_canPass t (nI x) = true
  · rw [if_pos c, c]
    refine ST_ok (hr.symm.trans c) ?_
    rw [hfol]
    exact ⟨vB_pass (d := nI x) h.1, (vM_ends (d := nI x) hv).1, days_RBx h ((in_dec (v := x) (x := 1) (y := 30) (by omega) (by omega) (by omega)).trans (by simp; omega)) ((iPass h (nI x)).mp c)⟩
  · rw [if_neg c, tf_of c]
    exact ST_no (hr.symm.trans (tf_of c))
theorem co_114 {t ν : BS} {k x : Nat} (h : AL t ν) (hv : vM ν) (hx : x ≤ 19) (e0 : ν.2 6 k = nI 114) (e1 : ν.2 6 (k + 1) = nI x) : ST t ν (fX2_submitIfPossible t (nI x)).2 (fX2_submitIfPossible t (nI x)).1 k := by
  have hcan := lt_can e0 (by decide) (by decide)
  rw [e1, cl_x (by omega), if_neg (show ¬ nI 114 = 97 by decide), if_neg (show ¬ nI 114 = 110 by decide), if_pos (show nI 114 = 114 from rfl)] at hcan
  have hfol : fX7_follows ν k = fX7_lay ν x 2 2 := by
    unfold fX7_follows
    rw [e0, if_neg (show ¬ nI 114 = 97 by decide), if_neg (show ¬ nI 114 = 101 by decide), if_neg (show ¬ nI 114 = 110 by decide), if_neg (show ¬ nI 114 = 111 by decide), if_pos (show nI 114 = 114 from rfl), e1, cl_x (by omega)]
  unfold fX2_submitIfPossible
  by_cases c1 : fX7_isTicket ν (nI x) = true
  · have ht := n_of h (by omega) c1
    rw [if_pos c1, ← h.st ht] at hcan
    rw [if_pos (show fX0_hasTicket t (nI x) = true by rw [iT0 h]; exact c1), cl_x (by omega)]
    by_cases c2 : t.2 0 x = 1
    · rw [if_pos c2] at hcan ⊢
      refine ST_ok hcan ?_
      rw [hfol]
      exact ⟨h.1, (vM_layD (t := x) (w := 2) (v := 2) hv rfl).1, state2_RB h ht (left_0 rfl ((h.st ht).symm.trans c2) (by decide))⟩
    · rw [if_neg c2] at hcan ⊢
      exact ST_no hcan
  · rw [if_neg c1] at hcan
    rw [if_neg (show ¬ fX0_hasTicket t (nI x) = true by rw [iT0 h]; exact c1)]
    exact ST_no hcan
theorem co_115 {t ν : BS} {k x : Nat} (h : AL t ν) (hv : vM ν) (hx : x ≤ 19) (e0 : ν.2 6 k = nI 115) (e1 : ν.2 6 (k + 1) = nI x) : ST t ν (fX2_startIfPossible t (nI x)).2 (fX2_startIfPossible t (nI x)).1 k := by
  have hcan := lt_can e0 (by decide) (by decide)
  rw [e1, cl_x (by omega), if_neg (show ¬ nI 115 = 97 by decide), if_neg (show ¬ nI 115 = 110 by decide), if_neg (show ¬ nI 115 = 114 by decide), if_pos (show nI 115 = 115 from rfl)] at hcan
  have hfol : fX7_follows ν k = fX7_lay ν x 2 1 := by
    unfold fX7_follows
    rw [e0, if_neg (show ¬ nI 115 = 97 by decide), if_neg (show ¬ nI 115 = 101 by decide), if_neg (show ¬ nI 115 = 110 by decide), if_neg (show ¬ nI 115 = 111 by decide), if_neg (show ¬ nI 115 = 114 by decide), if_pos (show nI 115 = 115 from rfl), e1, cl_x (by omega)]
  unfold fX2_startIfPossible
  by_cases c1 : fX7_isTicket ν (nI x) = true
  · have ht := n_of h (by omega) c1
    rw [if_pos c1] at hcan
    rw [if_pos (show fX0_hasTicket t (nI x) = true by rw [iT0 h]; exact c1), cl_x (by omega)]
    by_cases c2 : fX0_canStart t x = true
    · rw [if_pos c2]
      refine ST_ok (hcan.trans ((iStart h ht).mp c2)) ?_
      rw [hfol]
      exact ⟨h.1, (vM_layD (t := x) (w := 2) (v := 1) hv rfl).1, state1_RB h ht (left_0 rfl (start_0 ((iStart h ht).mp c2)) (by decide))⟩
    · rw [if_neg c2]
      exact ST_no (hcan.trans (tf_of (fun q => c2 ((iStart h ht).mpr q))))
  · rw [if_neg c1] at hcan
    rw [if_neg (show ¬ fX0_hasTicket t (nI x) = true by rw [iT0 h]; exact c1)]
    exact ST_no hcan
theorem co_99 {t ν : BS} {k x : Nat} (h : AL t ν) (hv : vM ν) (hx : x ≤ 19) (e0 : ν.2 6 k = nI 99) (e1 : ν.2 6 (k + 1) = nI x) : ST t ν (fX2_closeIfPossible t (nI x)).2 (fX2_closeIfPossible t (nI x)).1 k := by
  have hcan := lt_can e0 (by decide) (by decide)
  rw [e1, cl_x (by omega), if_neg (show ¬ nI 99 = 97 by decide), if_neg (show ¬ nI 99 = 110 by decide), if_neg (show ¬ nI 99 = 114 by decide), if_neg (show ¬ nI 99 = 115 by decide)] at hcan
  have hfol : fX7_follows ν k = (fX7_closes ν x).2 := by
    unfold fX7_follows
    rw [e0, if_neg (show ¬ nI 99 = 97 by decide), if_neg (show ¬ nI 99 = 101 by decide), if_neg (show ¬ nI 99 = 110 by decide), if_neg (show ¬ nI 99 = 111 by decide), if_neg (show ¬ nI 99 = 114 by decide), if_neg (show ¬ nI 99 = 115 by decide), e1, cl_x (by omega)]
  unfold fX2_closeIfPossible
  by_cases c1 : fX7_isTicket ν (nI x) = true
  · have ht := n_of h (by omega) c1
    rw [if_pos c1] at hcan
    rw [if_pos (show fX0_hasTicket t (nI x) = true by rw [iT0 h]; exact c1), cl_x (by omega)]
    by_cases c2 : fX0_canClose t x = true
    · rw [if_pos c2]
      refine ST_ok (hcan.trans ((iClose h ht).mp c2)) ?_
      rw [hfol]
      exact ⟨vB_finish (t := x) h.1, (vM_closesx (t := x) hv).1, finish_RBx h ht (left_0 rfl (close_2 ((iClose h ht).mp c2)) (by decide))⟩
    · rw [if_neg c2]
      exact ST_no (hcan.trans (tf_of (fun q => c2 ((iClose h ht).mpr q))))
  · rw [if_neg c1] at hcan
    rw [if_neg (show ¬ fX0_hasTicket t (nI x) = true by rw [iT0 h]; exact c1)]
    exact ST_no hcan
theorem co_at {t ν θ : BS} {k : Nat} (h : AL t ν) (hv : vM ν) (ho : OA θ ν k) : ST t ν (fX2_carryOut t (θ.2 1 k) (θ.2 2 k) (θ.2 3 k)).2 (fX2_carryOut t (θ.2 1 k) (θ.2 2 k) (θ.2 3 k)).1 (3 * k) := by
  obtain ⟨z, x, y, hd, a1, b1, a2, b2, ab⟩ := ho
  rw [a1, a2]
  unfold fX2_carryOut
  rcases hd with ⟨rfl, hx, hy⟩ | ⟨rfl, hx, hy⟩ | ⟨rfl, hx, hy⟩ | ⟨rfl, hx1, hx2⟩ | ⟨rfl | rfl | rfl, hx⟩
  · obtain ⟨a3, b3⟩ := ab (Or.inl rfl)
    rw [a3, if_pos (show nI 97 = 97 from rfl)]
    exact co_97 h hv hx hy b1 b2 b3
  · obtain ⟨a3, b3⟩ := ab (Or.inr (Or.inl rfl))
    rw [a3, if_neg (show ¬ nI 110 = 97 by decide), if_neg (show ¬ nI 110 = 99 by decide), if_neg (show ¬ nI 110 = 101 by decide), if_pos (show nI 110 = 110 from rfl)]
    exact co_110 h hv hx hy b1 b2 b3
  · obtain ⟨a3, b3⟩ := ab (Or.inr (Or.inr rfl))
    rw [a3, if_neg (show ¬ nI 111 = 97 by decide), if_neg (show ¬ nI 111 = 99 by decide), if_neg (show ¬ nI 111 = 101 by decide), if_neg (show ¬ nI 111 = 110 by decide), if_pos (show nI 111 = 111 from rfl)]
    exact co_111 h hv hx b1 b2 b3
  · rw [if_neg (show ¬ nI 101 = 97 by decide), if_neg (show ¬ nI 101 = 99 by decide), if_pos (show nI 101 = 101 from rfl)]
    exact co_101 h hv ⟨hx1, hx2⟩ b1 b2
  · rw [if_neg (show ¬ nI 99 = 97 by decide), if_pos (show nI 99 = 99 from rfl)]
    exact co_99 h hv hx b1 b2
  · rw [if_neg (show ¬ nI 114 = 97 by decide), if_neg (show ¬ nI 114 = 99 by decide), if_neg (show ¬ nI 114 = 101 by decide), if_neg (show ¬ nI 114 = 110 by decide), if_neg (show ¬ nI 114 = 111 by decide), if_pos (show nI 114 = 114 from rfl)]
    exact co_114 h hv hx b1 b2
  · rw [if_neg (show ¬ nI 115 = 97 by decide), if_neg (show ¬ nI 115 = 99 by decide), if_neg (show ¬ nI 115 = 101 by decide), if_neg (show ¬ nI 115 = 110 by decide), if_neg (show ¬ nI 115 = 111 by decide), if_neg (show ¬ nI 115 = 114 by decide), if_pos (show nI 115 = 115 from rfl)]
    exact co_115 h hv hx b1 b2
