/-! ===== the states: numbers by place, rows by place ===== -/
abbrev BS : Type := (Nat → Int32) × (Nat → Nat → Int32)
def sI (β : BS) (k : Nat) (v : Int32) : BS := (fun j => if j = k then v else β.1 j, β.2)
def sA (β : BS) (k : Nat) (f : Nat → Int32) : BS := (β.1, fun j => if j = k then f else β.2 j)
/-- one place of a row -/
def sE (β : BS) (k i : Nat) (v : Int32) : BS := sA β k (upd (β.2 k) i v)
/-- a board at the addresses ad: numbers 0 ticketCount, 1 today, 2 closingCount, 3 reopeningCount; rows 0 states, 1 points, 2 priorities, 3 owners, 4 milestones, 5 openingDays, 6 closingDays, 7 progressDays, 8 putBackCounts, 9 needSets, 10 capacities, 11 loads, 12 dates -/
def wB (E : gE) (ad : Nat → Nat) (β : BS) : va_W :=
  [(ad 0, .inr (0, [.int (β.1 0), .int (β.1 1), .int (β.1 2), .int (β.1 3), .ref (ad 1), .ref (ad 2), .ref (ad 3), .ref (ad 4), .ref (ad 5), .ref (ad 6), .ref (ad 7), .ref (ad 8), .ref (ad 9), .ref (ad 10), .ref (ad 11), .ref (ad 12), .ref (ad 13)])),
   (ad 1, .inl (E.2 0, 20, .inl (β.2 0))), (ad 2, .inl (E.2 0, 20, .inl (β.2 1))), (ad 3, .inl (E.2 0, 20, .inl (β.2 2))), (ad 4, .inl (E.2 0, 20, .inl (β.2 3))), (ad 5, .inl (E.2 0, 20, .inl (β.2 4))), (ad 6, .inl (E.2 0, 20, .inl (β.2 5))), (ad 7, .inl (E.2 0, 20, .inl (β.2 6))), (ad 8, .inl (E.2 0, 20, .inl (β.2 7))), (ad 9, .inl (E.2 0, 20, .inl (β.2 8))), (ad 10, .inl (E.2 0, 20, .inl (β.2 9))),
   (ad 11, .inl (E.2 0, 5, .inl (β.2 10))), (ad 12, .inl (E.2 0, 5, .inl (β.2 11))), (ad 13, .inl (E.2 0, 4, .inl (β.2 12)))]
/-- Chains: rows 0 table, 1 triedBests, 2 orderedBests, 3 closingOrder -/
def wC (E : gE) (ad : Nat → Nat) (β : BS) : va_W :=
  [(ad 0, .inr (1, [.ref (ad 1), .ref (ad 2), .ref (ad 3), .ref (ad 4)])), (ad 1, .inl (E.2 0, 20, .inl (β.2 0))), (ad 2, .inl (E.2 0, 20, .inl (β.2 1))), (ad 3, .inl (E.2 0, 20, .inl (β.2 2))), (ad 4, .inl (E.2 0, 20, .inl (β.2 3)))]
/-- OrderText: numbers 0 length, 1 at, 2 orderCount; rows 0 signs, 1 kinds, 2 firsts, 3 seconds -/
def wT (E : gE) (ad : Nat → Nat) (β : BS) : va_W :=
  [(ad 0, .inr (3, [.ref (ad 1), .int (β.1 0), .int (β.1 1), .ref (ad 2), .ref (ad 3), .ref (ad 4), .int (β.1 2)])), (ad 1, .inl (E.2 2, 60, .inl (β.2 0))), (ad 2, .inl (E.2 2, 20, .inl (β.2 1))), (ad 3, .inl (E.2 0, 20, .inl (β.2 2))), (ad 4, .inl (E.2 0, 20, .inl (β.2 3)))]
/-- History: numbers 0 oldest, 1 count; row 0 kept; the addresses of the boards: bd k, k from 2 to 7 the saved ones, 8 and 9 the slots' -/
def wH (E : gE) (ad : Nat → Nat) (bd : Nat → Nat → Nat) (β : BS) : va_W :=
  [(ad 0, .inr (2, [.ref (ad 1), .int (β.1 0), .int (β.1 1), .ref (ad 2), .ref (ad 3)])), (ad 1, .inl (E.2 4, 6, .inr (.inr (.inr (.inr (fun i => some (bd (2 + i) 0))))))), (ad 2, .inl (E.2 4, 2, .inr (.inr (.inr (.inr (fun i => some (bd (8 + i) 0))))))), (ad 3, .inl (E.2 1, 2, .inl (β.2 0)))]
/-- TicketChains: the addresses of its parts -/
def wX (ax : Nat) (b0 b1 c h t : Nat) : va_W := [(ax, .inr (4, [.ref b0, .ref b1, .ref c, .ref h, .ref t]))]
/-- TicketChainsModel: numbers 0 thrown, 1 stateMany, 2 length, 3 at, 4 isWell, 5 readMany; rows 0 s, 1 aside, 2 states, 3 slots, 4 hasSlot, 5 text, 6 read, 7 order, 8 chain -/
def wM (E : gE) (ad : Nat → Nat) (β : BS) : va_W :=
  [(ad 0, .inr (5, [.int (β.1 0), .ref (ad 1), .ref (ad 2), .ref (ad 3), .int (β.1 1), .ref (ad 4), .ref (ad 5), .ref (ad 6), .int (β.1 2), .int (β.1 3), .int (β.1 4), .ref (ad 7), .int (β.1 5), .ref (ad 8), .ref (ad 9)])),
   (ad 1, .inl (E.2 0, 213, .inl (β.2 0))), (ad 2, .inl (E.2 0, 213, .inl (β.2 1))), (ad 3, .inl (E.2 0, 1278, .inl (β.2 2))), (ad 4, .inl (E.2 0, 426, .inl (β.2 3))), (ad 5, .inl (E.2 1, 2, .inl (β.2 4))), (ad 6, .inl (E.2 0, 60, .inl (β.2 5))), (ad 7, .inl (E.2 0, 96, .inl (β.2 6))), (ad 8, .inl (E.2 0, 20, .inl (β.2 7))), (ad 9, .inl (E.2 0, 20, .inl (β.2 8)))]
/-- how many tickets -/
def cnt (β : BS) : Nat := (β.1 0).toNatClampNeg
/-- none, or an owner -/
def okO (x : Int32) : Prop := x = -1 ∨ ∃ j : Nat, j < 5 ∧ x = nI j
/-- what a board's methods ask of it -/
def vB (β : BS) : Prop := cnt β ≤ 20 ∧ β.1 0 = nI (cnt β) ∧ ∀ t : Nat, t < 20 → okO (β.2 3 t)
/-- a loop's values: from a, the body f at 0, 1, .. -/
def lpF {α : Type} (f : Nat → α → α) (a : α) : Nat → α
  | 0 => a
  | i + 1 => f i (lpF f a i)
theorem lpF_0 {α : Type} (f : Nat → α → α) (a : α) : lpF f a 0 = a := rfl
theorem lpF_1 {α : Type} (f : Nat → α → α) (a : α) (i : Nat) : lpF f a (i + 1) = f i (lpF f a i) := rfl
theorem lpF_inv {α : Type} {f : Nat → α → α} {a : α} (P : α → Prop) (h0 : P a) (hs : ∀ i x, P x → P (f i x)) : ∀ i, P (lpF f a i)
  | 0 => h0
  | i + 1 => hs i _ (lpF_inv P h0 hs i)
/-- a loop's own comparison: going on, stopping -/
theorem lc_lt {x y : Int32} {i N : Nat} (hx : x = nI i) (hy : y = nI N) (h : i < N) (hN : N < 2 ^ 31) : x < y := by rw [hx, hy]; exact nI_lt h hN
theorem lc_nlt {x y : Int32} {i N : Nat} (hx : x = nI i) (hy : y = nI N) (h : N ≤ i) (hi : i < 2 ^ 31) : ¬ x < y := by rw [hx, hy]; exact nI_nlt h hi
theorem lc_le {x y : Int32} {i N : Nat} (hx : x = nI i) (hy : y = nI N) (h : N ≤ i) (hi : i < 2 ^ 31) : y ≤ x := by rw [hx, hy]; exact nI_le h hi
theorem lc_nle {x y : Int32} {i N : Nat} (hx : x = nI i) (hy : y = nI N) (h : i < N) (hN : N < 2 ^ 31) : ¬ y ≤ x := by rw [hx, hy]; exact nI_ge h hN
theorem nI_lit1 : (1 : Int32) = nI 1 := rfl
theorem nI_cases {x : Int32} {b : Int32} {N : Nat} (hb : b = nI N) (hN : N ≤ 20) (h0 : 0 ≤ x) (h : x < b) : ∃ j : Nat, j < N ∧ x = nI j := by
  obtain ⟨j, hj, rfl⟩ := nI_of (x := x) (by intro c; exact absurd (Int32.lt_of_lt_of_le c h0) (Int32.lt_irrefl))
  refine ⟨j, ?_, rfl⟩
  rw [hb] at h
  exact (nI_ltI hj (by omega)).mp h
