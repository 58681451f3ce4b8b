def quD (A : Rows) (nS : Nat) (x d : Int32) : Nat × (Nat → Int32) := x_qu A (pDue A x d) nS 1 0 (A 25)
def okL (A : Rows) (nR nX nL : Nat) (x d : Int32) : Bool := hN (nI nR) x && dC d && ruC A nX x d && !decide (d ≤ A 7 x.toNatClampNeg) && !decide (nL = 60)
def s_load (A : Rows) (nR nX nS nL nT e0 rm : Nat) (x d : Int32) : Int32 × Rows :=
  if okL A nR nX nL x d = true then (nI (nL + 1), if A 1 (A 3 x.toNatClampNeg).toNatClampNeg = 0 then (ua (ua (ua (ua (ua (ua A 0 (uz (uz (uz (A 0) 5 (nI (nL + 1))) 7 (nI (quD A nS x d).1)) 6 (nI (x_te 1 (quD A nS x d).2 ((quD A nS x d).1 - 0) 0 nT (A 23) (A 24)).1))) 7 (upd (A 7) x.toNatClampNeg d)) 21 (upd (A 21) (nL + 1) (A 21 nL))) 23 ((x_te 1 (quD A nS x d).2 ((quD A nS x d).1 - 0) 0 nT (A 23) (A 24)).2.1)) 24 ((x_te 1 (quD A nS x d).2 ((quD A nS x d).1 - 0) 0 nT (A 23) (A 24)).2.2)) 25 ((quD A nS x d).2)) else (ua (ua (ua (ua (ua (ua (ua (ua (ua A 0 (uz (uz (uz (A 0) 5 (nI (nL + 1))) 7 (nI (quD A nS x d).1)) 6 (nI (x_te 2 (quD A nS x d).2 ((quD A nS x d).1 - min (quD A nS x d).1 rm) (min (quD A nS x d).1 rm) nT (A 23) (A 24)).1))) 7 (upd (A 7) x.toNatClampNeg d)) 17 ((x_ta d (quD A nS x d).2 (min (quD A nS x d).1 rm) 0 e0 (A 17) (A 19) (A 22)).2.1)) 19 ((x_ta d (quD A nS x d).2 (min (quD A nS x d).1 rm) 0 e0 (A 17) (A 19) (A 22)).2.2.1)) 21 (upd (A 21) (nL + 1) (nI (x_ta d (quD A nS x d).2 (min (quD A nS x d).1 rm) 0 e0 (A 17) (A 19) (A 22)).1))) 22 ((x_ta d (quD A nS x d).2 (min (quD A nS x d).1 rm) 0 e0 (A 17) (A 19) (A 22)).2.2.2)) 23 ((x_te 2 (quD A nS x d).2 ((quD A nS x d).1 - min (quD A nS x d).1 rm) (min (quD A nS x d).1 rm) nT (A 23) (A 24)).2.1)) 24 ((x_te 2 (quD A nS x d).2 ((quD A nS x d).1 - min (quD A nS x d).1 rm) (min (quD A nS x d).1 rm) nT (A 23) (A 24)).2.2)) 25 ((quD A nS x d).2))) else (0, A)
theorem mn_ {a b : Nat} (ha : a < 2 ^ 31) (hb : b < 2 ^ 31) : (if nI b < nI a then nI b else nI a) = nI (min a b) := by
  split
  · rename_i h
    have := nI_ltD h hb ha
    rw [Nat.min_eq_right (by omega)]
  · rename_i h
    have := nI_nltD h hb ha
    rw [Nat.min_eq_left (by omega)]
