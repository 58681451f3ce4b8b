/-- a state: rows of numbers; row 0 holds the single numbers -/
abbrev Rows : Type := Nat → Nat → Int32
def ua (A : Rows) (r : Nat) (f : Nat → Int32) : Rows := fun i => bif Nat.beq i r then f else A i
def uz (f : Nat → Int32) (k : Nat) (x : Int32) : Nat → Int32 := fun j => bif Nat.beq j k then x else f j
def b2 (b : Bool) : Int32 := bif b then 1 else 0
theorem b2_f {b : Bool} (h : b2 b = 0) : b = false := by cases b with | false => rfl | true => exact absurd h (by decide)
theorem b2_t {b : Bool} (h : ¬ b2 b = 0) : b = true := by cases b with | true => rfl | false => exact absurd rfl h
theorem b2_nar (b : Bool) : narrow .boolean (.int (b2 b)) = .int (b2 b) := by cases b <;> rfl
theorem b2_vp (b : Bool) : vp_nar .boolean (b2 b) = b2 b := by cases b <;> rfl
theorem ar_cl {f : Nat → Int32} {k : Nat} (h : k < 2 ^ 31) : f (nI k).toNatClampNeg = f k := by rw [nI_clamp h]
theorem ar_inc (k : Nat) : nI k + Int32.ofInt 1 = nI (k + 1) := (nI_succ k).symm
/-- the room of a method that calls n deep -/
def rmd (n : Nat) : Room := { frames := n, cells := 0, slots := 0, locals := 40 * n }
theorem sw_out {x : Int32} (lo hi : Int) (h0 : -2147483648 ≤ lo) (h1 : hi < 2147483648) (h : ∀ z : Int, lo ≤ z → z ≤ hi → ¬ x = Int32.ofInt z) : x.toInt < lo ∨ hi < x.toInt := by
  rcases Int.lt_or_le x.toInt lo with a | a
  · exact Or.inl a
  rcases Int.lt_or_le hi x.toInt with b | b
  · exact Or.inr b
  · exact absurd (Int32.ofInt_toInt x).symm (h x.toInt a b)
def tw (cI cZ : ClassId) (q : Nat → Nat) (A : Nat → Nat → Int32) : va_W := [(q 0, .inr (7, [.ref (q 1), .ref (q 2), .ref (q 4), .ref (q 5), .ref (q 6), .ref (q 7), .ref (q 32), .int (A 0 7)])), (q 1, .inr (3, [.ref (q 8), .int (A 0 0)])), (q 2, .inr (4, [.ref (q 9), .ref (q 10), .ref (q 11), .ref (q 12), .ref (q 13), .ref (q 14), .ref (q 3), .int (A 0 1)])), (q 3, .inr (1, [.ref (q 15), .ref (q 16), .int (A 0 2)])), (q 4, .inr (0, [.ref (q 17), .ref (q 18), .ref (q 19), .ref (q 20), .ref (q 21), .int (A 0 3)])), (q 5, .inr (5, [.ref (q 22), .ref (q 23), .ref (q 24), .ref (q 25), .ref (q 26), .ref (q 27), .int (A 0 4)])), (q 6, .inr (2, [.ref (q 28), .ref (q 29), .int (A 0 5)])), (q 7, .inr (6, [.ref (q 30), .ref (q 31), .int (A 0 6)])), (q 8, .inl (cZ, 12, .inl (A 1))), (q 9, .inl (cI, 40, .inl (A 2))), (q 10, .inl (cI, 40, .inl (A 3))), (q 11, .inl (cI, 40, .inl (A 4))), (q 12, .inl (cI, 40, .inl (A 5))), (q 13, .inl (cI, 40, .inl (A 6))), (q 14, .inl (cI, 40, .inl (A 7))), (q 15, .inl (cI, 60, .inl (A 8))), (q 16, .inl (cI, 60, .inl (A 9))), (q 17, .inl (cI, 61, .inl (A 10))), (q 18, .inl (cI, 61, .inl (A 11))), (q 19, .inl (cI, 61, .inl (A 12))), (q 20, .inl (cZ, 61, .inl (A 13))), (q 21, .inl (cZ, 61, .inl (A 14))), (q 22, .inl (cI, 151, .inl (A 15))), (q 23, .inl (cI, 151, .inl (A 16))), (q 24, .inl (cI, 151, .inl (A 17))), (q 25, .inl (cI, 151, .inl (A 18))), (q 26, .inl (cI, 151, .inl (A 19))), (q 27, .inl (cI, 151, .inl (A 20))), (q 28, .inl (cI, 61, .inl (A 21))), (q 29, .inl (cI, 150, .inl (A 22))), (q 30, .inl (cI, 100, .inl (A 23))), (q 31, .inl (cI, 100, .inl (A 24))), (q 32, .inl (cI, 150, .inl (A 25)))]
def mw (cI cZ : ClassId) (q : Nat → Nat) (A : Nat → Nat → Int32) : va_W := [(q 0, .inr (8, [.int (A 0 0), .int (A 0 1), .ref (q 1), .int (A 0 2), .ref (q 2), .ref (q 3), .ref (q 4), .int (A 0 3), .int (A 0 4), .ref (q 5), .ref (q 6), .ref (q 7), .int (A 0 5), .ref (q 8), .int (A 0 6), .ref (q 9), .int (A 0 7)])), (q 1, .inl (cZ, 12, .inl (A 1))), (q 2, .inl (cI, 240, .inl (A 2))), (q 3, .inl (cI, 60, .inl (A 3))), (q 4, .inl (cI, 60, .inl (A 4))), (q 5, .inl (cI, 183, .inl (A 5))), (q 6, .inl (cZ, 61, .inl (A 6))), (q 7, .inl (cZ, 61, .inl (A 7))), (q 8, .inl (cI, 1208, .inl (A 8))), (q 9, .inl (cI, 200, .inl (A 9)))]
/-- 0 ≤ x < n, as the class asks it; 1 ≤ x ≤ n -/
def hN (n x : Int32) : Bool := !decide (x < 0) && !decide (n ≤ x)
def h1 (n x : Int32) : Bool := !decide (x < 1) && !decide (n < x)
def dC (x : Int32) : Bool := !decide (x < 0) && !decide (99999 < x)
theorem hN_in {n x : Int32} {N : Nat} (h : hN n x = true) (hn : n.toInt ≤ N) : vp_in x N := by
  simp only [hN, Bool.and_eq_true, Bool.not_eq_true', decide_eq_false_iff_not, Int32.lt_iff_toInt_lt, Int32.le_iff_toInt_le] at h
  rw [vp_in_iff]
  have h0 : (0 : Int32).toInt = 0 := rfl
  omega
theorem h1_in {n x : Int32} {N : Nat} (h : h1 n x = true) (hn : n.toInt < N) : vp_in x N := by
  simp only [h1, Bool.and_eq_true, Bool.not_eq_true', decide_eq_false_iff_not, Int32.lt_iff_toInt_lt, Int32.le_iff_toInt_le] at h
  rw [vp_in_iff]
  have h0 : (1 : Int32).toInt = 1 := rfl
  omega
/-- a count: it lies in 0 .. N -/
def cnt (x : Int32) (N : Nat) : Prop := ∃ k : Nat, k ≤ N ∧ x = nI k
theorem cnt_le {x : Int32} {N : Nat} (h : cnt x N) (hN : N < 2 ^ 31) : x.toInt ≤ N := by
  obtain ⟨k, h1, rfl⟩ := h
  rw [nI_toInt (by omega)]
  omega
theorem cnt_lt {x : Int32} {N : Nat} (h : cnt x N) (hN : N < 2 ^ 31) : x.toInt < (N + 1 : Nat) := by
  have := cnt_le h hN
  omega
/-- room is left: the count itself is a place -/
theorem cnt_in {x : Int32} {N : Nat} (h : cnt x N) (hN : N < 2 ^ 31) (hne : ¬ x = nI N) : vp_in x N := by
  obtain ⟨k, h1, rfl⟩ := h
  have : k ≠ N := fun e => hne (by rw [e])
  exact vp_in_nI (by omega) hN
