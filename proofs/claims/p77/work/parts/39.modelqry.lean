def fX7_allPoints_L9 (μ : BS) (i9 : Nat) (t9 : Int32) : Int32 :=
  t9 + (fX7_sumWith (sI μ 0 0) (nI i9) true)
