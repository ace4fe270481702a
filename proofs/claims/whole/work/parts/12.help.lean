/-! ===== small words of the walks ===== -/
def iremF (x y : Int32) : Int32 := x - x / y * y
def ushrF (x y : Int32) : Int32 := (x.toUInt32 >>> (y.toUInt32 &&& Int32.toUInt32 31)).toInt32
def i2b (x : Int32) : Bool := !(x == 0)
theorem lc_ige {x y : Int32} {i N : Nat} (hx : x = nI i) (hy : y = nI N) (hi : i < 2 ^ 31) (hN : N < 2 ^ 31) (h : ¬ y ≤ x) : i < N := by
  rcases Nat.lt_or_ge i N with c | c
  · exact c
  · exact absurd (lc_le hx hy c hi) h
theorem lc_igt {x y : Int32} {i N : Nat} (hx : x = nI i) (hy : y = nI N) (hi : i < 2 ^ 31) (hN : N < 2 ^ 31) (h : ¬ y < x) : i ≤ N := by
  rcases Nat.lt_or_ge N i with c | c
  · exact absurd (by rw [hx, hy]; exact nI_lt c hi) h
  · exact c
theorem nI_20 : (20 : Int32) = nI 20 := rfl
theorem okO_i {x : Int32} (h : okO x) (h1 : ¬ x = (-1)) : x = nI x.toNatClampNeg ∧ x.toNatClampNeg < 5 := by
  rcases h with h | ⟨j, hj, rfl⟩
  · exact absurd h h1
  · rw [nI_clamp (by omega)]
    exact ⟨rfl, hj⟩
theorem okO_n {j : Nat} (h : j < 5) : okO (nI j) := Or.inr ⟨j, h, rfl⟩
theorem lpF_fst {f : Nat → BS → BS} {a : BS} (h : ∀ i x, (f i x).1 = x.1) : ∀ i, (lpF f a i).1 = a.1
  | 0 => rfl
  | i + 1 => (h i _).trans (lpF_fst h i)
theorem lpF_invB {α : Type} {f : Nat → α → α} {a : α} (P : α → Prop) (N : Nat) (h0 : P a) (hs : ∀ i x, i < N → P x → P (f i x)) : ∀ i, i ≤ N → P (lpF f a i)
  | 0, _ => h0
  | i + 1, h => hs i _ (by omega) (lpF_invB P N h0 hs i (by omega))
theorem okI {x : Int32} {N : Nat} (hN : N < 2 ^ 31) (h : ∃ j : Nat, j < N ∧ x = nI j) : x = nI x.toNatClampNeg ∧ x.toNatClampNeg < N := by
  obtain ⟨j, hj, rfl⟩ := h
  rw [nI_clamp (by omega)]
  exact ⟨rfl, hj⟩
def dcmpFl (x y : UInt64) : Int32 := Op.cmpValue (FP.dcmp x y) .l
def dcmpFg (x y : UInt64) : Int32 := Op.cmpValue (FP.dcmp x y) .g
/-- a quotient of two ints, as doubles, is a number where the lower one isn't 0 -/
def gNN : Prop := ∀ x y : Int32, ¬ y = 0 → vf_n64 (FP.ddiv (FP.i2d x) (FP.i2d y))
theorem nI_l1100 : (1100 : Int32) = nI 1100 := rfl
theorem nI_l0 : (0 : Int32) = nI 0 := rfl
theorem nI_l1 : (1 : Int32) = nI 1 := rfl
theorem nI_l2 : (2 : Int32) = nI 2 := rfl
theorem nI_l3 : (3 : Int32) = nI 3 := rfl
theorem nI_l4 : (4 : Int32) = nI 4 := rfl
theorem nI_l5 : (5 : Int32) = nI 5 := rfl
theorem nI_l6 : (6 : Int32) = nI 6 := rfl
theorem nI_l20 : (20 : Int32) = nI 20 := rfl
theorem nI_l60 : (60 : Int32) = nI 60 := rfl
theorem nI_l213 : (213 : Int32) = nI 213 := rfl
theorem nI_l1065 : (1065 : Int32) = nI 1065 := rfl
theorem nI_l1278 : (1278 : Int32) = nI 1278 := rfl
/-- none, or a ticket -/
def okT (x : Int32) : Prop := x = (-1) ∨ ∃ j : Nat, j < 20 ∧ x = nI j
theorem okT_i {x : Int32} (h : okT x) (h1 : ¬ x = (-1)) : x = nI x.toNatClampNeg ∧ x.toNatClampNeg < 20 := okI (by decide) (h.resolve_left h1)
theorem lc_ilt {x y : Int32} {i N : Nat} (hx : x = nI i) (hy : y = nI N) (hi : i < 2 ^ 31) (hN : N < 2 ^ 31) (h : x < y) : i < N := lc_ige hx hy hi hN (by rw [Int32.not_le]; exact h)
/-- one board of a family put in place of another -/
def upB (σ : Nat → BS) (k : Nat) (β : BS) : Nat → BS := fun i => if i = k then β else σ i
theorem irem6 {x y : Int32} (hx : ∃ o : Nat, o < 6 ∧ x = nI o) (hy : ∃ c : Nat, c ≤ 6 ∧ y = nI c) : ∃ o : Nat, o < 6 ∧ iremF (x + y) 6 = nI o := by
  obtain ⟨o, ho, rfl⟩ := hx
  obtain ⟨c, hc, rfl⟩ := hy
  refine ⟨(o + c) % 6, Nat.mod_lt _ (by omega), ?_⟩
  rw [nI_add]
  exact pk_rem (d := 6) (by omega) (by omega) (by omega)
theorem sav_i {x y : Int32} (hx : ∃ o : Nat, o < 6 ∧ x = nI o) (hy : ∃ c : Nat, c ≤ 6 ∧ y = nI c) : iremF (x + y) 6 = nI (iremF (x + y) 6).toNatClampNeg ∧ (iremF (x + y) 6).toNatClampNeg < 6 := okI (by decide) (irem6 hx hy)
/-- a history: where the oldest state lies, how many there are, what slots are filled -/
def vH (η : BS) : Prop := (∃ o : Nat, o < 6 ∧ η.1 0 = nI o) ∧ (∃ c : Nat, c ≤ 6 ∧ η.1 1 = nI c) ∧ ∀ i : Nat, i < 2 → η.2 0 i = b2i (i2b (η.2 0 i))
/-- what the doubles' steps of bitsOf ask: numbers stay numbers -/
def gFP : Prop := (∀ x, vf_n64 x → vf_n64 (FP.ddiv x 4611686018427387904)) ∧ (∀ x, vf_n64 x → vf_n64 (FP.dmul x 4611686018427387904)) ∧ ∀ x, vf_n64 x → vf_n64 (FP.dsub x FP.dconst1) ∧ vf_n64 (FP.dmul (FP.dsub x FP.dconst1) 4841369599423283200)
theorem i2b_b2i (b : Bool) : i2b (b2i b) = b := by cases b <;> decide
theorem fit_b2i (b : Bool) : fits .boolean (.int (b2i b)) = true := by cases b <;> decide
set_option maxRecDepth 20000 in
theorem inX0 : ∀ w ∈ u_ws RX0 TX0 17, w ∈ gU := by
  show ∀ w ∈ ([Cond.lays RX0 "TicketChains$Board" "ticketCount" "I", Cond.lays RX0 "TicketChains$Board" "today" "I", Cond.lays RX0 "TicketChains$Board" "closingCount" "I", Cond.lays RX0 "TicketChains$Board" "reopeningCount" "I", Cond.laysFinal RX0 "TicketChains$Board" "states" "[I", Cond.laysFinal RX0 "TicketChains$Board" "points" "[I", Cond.laysFinal RX0 "TicketChains$Board" "priorities" "[I", Cond.laysFinal RX0 "TicketChains$Board" "owners" "[I", Cond.laysFinal RX0 "TicketChains$Board" "milestones" "[I", Cond.laysFinal RX0 "TicketChains$Board" "openingDays" "[I", Cond.laysFinal RX0 "TicketChains$Board" "closingDays" "[I", Cond.laysFinal RX0 "TicketChains$Board" "progressDays" "[I", Cond.laysFinal RX0 "TicketChains$Board" "putBackCounts" "[I", Cond.laysFinal RX0 "TicketChains$Board" "needSets" "[I", Cond.laysFinal RX0 "TicketChains$Board" "capacities" "[I", Cond.laysFinal RX0 "TicketChains$Board" "loads" "[I", Cond.laysFinal RX0 "TicketChains$Board" "dates" "[I"] : List Cond), w ∈ gU
  exact List.forall_mem_cons.mpr ⟨q1_81, List.forall_mem_cons.mpr ⟨q1_83, List.forall_mem_cons.mpr ⟨q1_85, List.forall_mem_cons.mpr ⟨q1_87, List.forall_mem_cons.mpr ⟨q1_89, List.forall_mem_cons.mpr ⟨q1_91, List.forall_mem_cons.mpr ⟨q1_93, List.forall_mem_cons.mpr ⟨q1_95, List.forall_mem_cons.mpr ⟨q1_97, List.forall_mem_cons.mpr ⟨q1_99, List.forall_mem_cons.mpr ⟨q1_101, List.forall_mem_cons.mpr ⟨q1_103, List.forall_mem_cons.mpr ⟨q1_105, List.forall_mem_cons.mpr ⟨q1_107, List.forall_mem_cons.mpr ⟨q1_109, List.forall_mem_cons.mpr ⟨q1_111, List.forall_mem_cons.mpr ⟨q1_113, fun _ h => absurd h List.not_mem_nil⟩⟩⟩⟩⟩⟩⟩⟩⟩⟩⟩⟩⟩⟩⟩⟩⟩
set_option maxRecDepth 20000 in
theorem inX1 : ∀ w ∈ u_ws RX1 TX1 4, w ∈ gU := by
  show ∀ w ∈ ([Cond.laysFinal RX1 "TicketChains$Chains" "table" "[I", Cond.laysFinal RX1 "TicketChains$Chains" "triedBests" "[I", Cond.laysFinal RX1 "TicketChains$Chains" "orderedBests" "[I", Cond.laysFinal RX1 "TicketChains$Chains" "closingOrder" "[I"] : List Cond), w ∈ gU
  exact List.forall_mem_cons.mpr ⟨q1_128, List.forall_mem_cons.mpr ⟨q1_130, List.forall_mem_cons.mpr ⟨q1_132, List.forall_mem_cons.mpr ⟨q1_134, fun _ h => absurd h List.not_mem_nil⟩⟩⟩⟩
set_option maxRecDepth 20000 in
theorem inX3 : ∀ w ∈ u_ws RX3 TX3 5, w ∈ gU := by
  show ∀ w ∈ ([Cond.laysFinal RX3 "TicketChains$History" "saved" "[LTicketChains$Board;", Cond.lays RX3 "TicketChains$History" "oldest" "I", Cond.lays RX3 "TicketChains$History" "count" "I", Cond.laysFinal RX3 "TicketChains$History" "slots" "[LTicketChains$Board;", Cond.laysFinal RX3 "TicketChains$History" "kept" "[Z"] : List Cond), w ∈ gU
  exact List.forall_mem_cons.mpr ⟨q1_151, List.forall_mem_cons.mpr ⟨q1_153, List.forall_mem_cons.mpr ⟨q1_155, List.forall_mem_cons.mpr ⟨q1_157, List.forall_mem_cons.mpr ⟨q1_159, fun _ h => absurd h List.not_mem_nil⟩⟩⟩⟩⟩
set_option maxRecDepth 20000 in
theorem inX4 : ∀ w ∈ u_ws RX4 TX4 7, w ∈ gU := by
  show ∀ w ∈ ([Cond.laysFinal RX4 "TicketChains$OrderText" "signs" "[C", Cond.lays RX4 "TicketChains$OrderText" "length" "I", Cond.lays RX4 "TicketChains$OrderText" "at" "I", Cond.laysFinal RX4 "TicketChains$OrderText" "kinds" "[C", Cond.laysFinal RX4 "TicketChains$OrderText" "firsts" "[I", Cond.laysFinal RX4 "TicketChains$OrderText" "seconds" "[I", Cond.lays RX4 "TicketChains$OrderText" "orderCount" "I"] : List Cond), w ∈ gU
  exact List.forall_mem_cons.mpr ⟨q1_176, List.forall_mem_cons.mpr ⟨q1_178, List.forall_mem_cons.mpr ⟨q1_180, List.forall_mem_cons.mpr ⟨q1_182, List.forall_mem_cons.mpr ⟨q1_184, List.forall_mem_cons.mpr ⟨q1_186, List.forall_mem_cons.mpr ⟨q1_188, fun _ h => absurd h List.not_mem_nil⟩⟩⟩⟩⟩⟩⟩
set_option maxRecDepth 20000 in
theorem inX7 : ∀ w ∈ u_ws RX7 TX7 15, w ∈ gU := by
  show ∀ w ∈ ([Cond.lays RX7 "TicketChainsModel" "thrown" "I", Cond.laysFinal RX7 "TicketChainsModel" "s" "[I", Cond.laysFinal RX7 "TicketChainsModel" "aside" "[I", Cond.laysFinal RX7 "TicketChainsModel" "states" "[I", Cond.lays RX7 "TicketChainsModel" "stateMany" "I", Cond.laysFinal RX7 "TicketChainsModel" "slots" "[I", Cond.laysFinal RX7 "TicketChainsModel" "hasSlot" "[Z", Cond.laysFinal RX7 "TicketChainsModel" "text" "[I", Cond.lays RX7 "TicketChainsModel" "length" "I", Cond.lays RX7 "TicketChainsModel" "at" "I", Cond.lays RX7 "TicketChainsModel" "isWell" "Z", Cond.laysFinal RX7 "TicketChainsModel" "read" "[I", Cond.lays RX7 "TicketChainsModel" "readMany" "I", Cond.laysFinal RX7 "TicketChainsModel" "order" "[I", Cond.laysFinal RX7 "TicketChainsModel" "chain" "[I"] : List Cond), w ∈ gU
  exact List.forall_mem_cons.mpr ⟨q6_85, List.forall_mem_cons.mpr ⟨q6_87, List.forall_mem_cons.mpr ⟨q6_89, List.forall_mem_cons.mpr ⟨q6_91, List.forall_mem_cons.mpr ⟨q6_93, List.forall_mem_cons.mpr ⟨q6_95, List.forall_mem_cons.mpr ⟨q6_97, List.forall_mem_cons.mpr ⟨q6_99, List.forall_mem_cons.mpr ⟨q6_101, List.forall_mem_cons.mpr ⟨q6_103, List.forall_mem_cons.mpr ⟨q6_105, List.forall_mem_cons.mpr ⟨q6_107, List.forall_mem_cons.mpr ⟨q6_109, List.forall_mem_cons.mpr ⟨q6_111, List.forall_mem_cons.mpr ⟨q6_113, fun _ h => absurd h List.not_mem_nil⟩⟩⟩⟩⟩⟩⟩⟩⟩⟩⟩⟩⟩⟩⟩
set_option maxRecDepth 20000 in
theorem inX6 : ∀ w ∈ u_ws RX6 TX6 5, w ∈ gU := by
  show ∀ w ∈ ([Cond.laysFinal RX6 "TicketChains" "board" "LTicketChains$Board;", Cond.laysFinal RX6 "TicketChains" "trial" "LTicketChains$Board;", Cond.laysFinal RX6 "TicketChains" "chains" "LTicketChains$Chains;", Cond.laysFinal RX6 "TicketChains" "history" "LTicketChains$History;", Cond.laysFinal RX6 "TicketChains" "text" "LTicketChains$OrderText;"] : List Cond), w ∈ gU
  exact List.forall_mem_cons.mpr ⟨q1_197, List.forall_mem_cons.mpr ⟨q1_199, List.forall_mem_cons.mpr ⟨q1_201, List.forall_mem_cons.mpr ⟨q1_203, List.forall_mem_cons.mpr ⟨q1_205, fun _ h => absurd h List.not_mem_nil⟩⟩⟩⟩⟩
