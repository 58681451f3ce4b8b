/-- what has arrived from a to b: how many, days in all, the most -/
def x_st (A : Rows) (a b : Int32) : Nat → Nat → Int32 → Int32 → Int32 → Int32 × Int32 × Int32
  | 0, _, n, s, m => (n, s, m)
  | k + 1, j, n, s, m => if (decide (A 17 j = 2) && joC A (A 16 j) a b) = true then x_st A a b k (j + 1) (n + 1) (s + (A 20 j - A 18 j)) (if m < A 20 j - A 18 j then A 20 j - A 18 j else m) else x_st A a b k (j + 1) n s m
theorem x_st_s {A : Rows} {a b : Int32} {i j : Nat} {n s m : Int32} (h : j ≤ i) : x_st A a b (i + 1 - j) j n s m = if (decide (A 17 j = 2) && joC A (A 16 j) a b) = true then x_st A a b (i + 1 - (j + 1)) (j + 1) (n + 1) (s + (A 20 j - A 18 j)) (if m < A 20 j - A 18 j then A 20 j - A 18 j else m) else x_st A a b (i + 1 - (j + 1)) (j + 1) n s m := by
  obtain ⟨k, hk⟩ : ∃ k, i + 1 - j = k + 1 := ⟨i - j, by omega⟩
  rw [hk, show i + 1 - (j + 1) = k by omega]
  rfl
def okT (nP : Nat) (a b w : Int32) : Bool := hN (nI nP) a && hN (nI nP) b && !decide (w < 0) && decide (w ≤ 3)
def o_stM (z : Int32 × Int32 × Int32) (w : Int32) : Int32 := if w = 3 ∧ z.1 = 0 then 0 else if w = 0 then z.1 else if w = 1 then z.2.1 else if w = 2 then z.2.2 else z.2.1 / z.1
