/-- a state: rows of numbers; row 0 holds the single numbers -/
abbrev Rows : Type := Nat → Nat → Int32
def ua (A : Rows) (r : Nat) (f : Nat → Int32) : Rows := fun i => bif Nat.beq i r then f else A i
def uz (f : Nat → Int32) (k : Nat) (x : Int32) : Nat → Int32 := fun j => bif Nat.beq j k then x else f j
def b2 (b : Bool) : Int32 := bif b then 1 else 0
theorem b2_f {b : Bool} (h : b2 b = 0) : b = false := by cases b with | false => rfl | true => exact absurd h (by decide)
theorem b2_t {b : Bool} (h : ¬ b2 b = 0) : b = true := by cases b with | true => rfl | false => exact absurd rfl h
theorem b2_nar (b : Bool) : narrow .boolean (.int (b2 b)) = .int (b2 b) := by cases b <;> rfl
theorem b2_vp (b : Bool) : vp_nar .boolean (b2 b) = b2 b := by cases b <;> rfl
theorem ar_cl {f : Nat → Int32} {k : Nat} (h : k < 2 ^ 31) : f (nI k).toNatClampNeg = f k := by rw [nI_clamp h]
theorem ar_inc (k : Nat) : nI k + Int32.ofInt 1 = nI (k + 1) := (nI_succ k).symm
/-- the room of a method that calls n deep -/
def rmd (n : Nat) : Room := { frames := n, cells := 0, slots := 0, locals := 40 * n }
theorem sw_out {x : Int32} (lo hi : Int) (h0 : -2147483648 ≤ lo) (h1 : hi < 2147483648) (h : ∀ z : Int, lo ≤ z → z ≤ hi → ¬ x = Int32.ofInt z) : x.toInt < lo ∨ hi < x.toInt := by
  rcases Int.lt_or_le x.toInt lo with a | a
  · exact Or.inl a
  rcases Int.lt_or_le hi x.toInt with b | b
  · exact Or.inr b
  · exact absurd (Int32.ofInt_toInt x).symm (h x.toInt a b)
def mx2 (g0 g1 : Nat → Int32) : Nat → Int32 := fun i => match i % 2 with
  | 0 => g0 (i / 2)
  | _ => g1 (i / 2)
theorem mxr2_0 {g0 g1 : Nat → Int32} (r : Nat) : mx2 g0 g1 (2 * r) = g0 r := by
  unfold mx2
  rw [show (2 * r) % 2 = 0 by omega, show (2 * r) / 2 = r by omega]
  rfl
theorem mxr2_1 {g0 g1 : Nat → Int32} (r : Nat) : mx2 g0 g1 (2 * r + 1) = g1 r := by
  unfold mx2
  rw [show (2 * r + 1) % 2 = 1 by omega, show (2 * r + 1) / 2 = r by omega]
  rfl
theorem mxu2_0 {g0 g1 : Nat → Int32} (r : Nat) (v : Int32) : upd (mx2 g0 g1) (2 * r) v = mx2 (upd g0 r v) g1 := by
  funext i
  have hi : i = 2 * (i / 2) ∨ i = 2 * (i / 2) + 1 := by omega
  generalize i / 2 = a at hi
  rcases hi with rfl | rfl
  · rw [mxr2_0 a]
    unfold upd
    by_cases e : a = r
    · rw [if_pos (by rw [e]), if_pos e]
    · rw [if_neg (by omega), if_neg e, mxr2_0 a]
  · rw [mxr2_1 a]
    unfold upd
    rw [if_neg (by omega), mxr2_1 a]
theorem mxu2_1 {g0 g1 : Nat → Int32} (r : Nat) (v : Int32) : upd (mx2 g0 g1) (2 * r + 1) v = mx2 g0 (upd g1 r v) := by
  funext i
  have hi : i = 2 * (i / 2) ∨ i = 2 * (i / 2) + 1 := by omega
  generalize i / 2 = a at hi
  rcases hi with rfl | rfl
  · rw [mxr2_0 a]
    unfold upd
    rw [if_neg (by omega), mxr2_0 a]
  · rw [mxr2_1 a]
    unfold upd
    by_cases e : a = r
    · rw [if_pos (by rw [e]), if_pos e]
    · rw [if_neg (by omega), if_neg e, mxr2_1 a]
def mx3 (g0 g1 g2 : Nat → Int32) : Nat → Int32 := fun i => match i % 3 with
  | 0 => g0 (i / 3)
  | 1 => g1 (i / 3)
  | _ => g2 (i / 3)
theorem mxr3_0 {g0 g1 g2 : Nat → Int32} (r : Nat) : mx3 g0 g1 g2 (3 * r) = g0 r := by
  unfold mx3
  rw [show (3 * r) % 3 = 0 by omega, show (3 * r) / 3 = r by omega]
  rfl
theorem mxr3_1 {g0 g1 g2 : Nat → Int32} (r : Nat) : mx3 g0 g1 g2 (3 * r + 1) = g1 r := by
  unfold mx3
  rw [show (3 * r + 1) % 3 = 1 by omega, show (3 * r + 1) / 3 = r by omega]
  rfl
theorem mxr3_2 {g0 g1 g2 : Nat → Int32} (r : Nat) : mx3 g0 g1 g2 (3 * r + 2) = g2 r := by
  unfold mx3
  rw [show (3 * r + 2) % 3 = 2 by omega, show (3 * r + 2) / 3 = r by omega]
  rfl
theorem mxu3_0 {g0 g1 g2 : Nat → Int32} (r : Nat) (v : Int32) : upd (mx3 g0 g1 g2) (3 * r) v = mx3 (upd g0 r v) g1 g2 := by
  funext i
  have hi : i = 3 * (i / 3) ∨ i = 3 * (i / 3) + 1 ∨ i = 3 * (i / 3) + 2 := by omega
  generalize i / 3 = a at hi
  rcases hi with rfl | rfl | rfl
  · rw [mxr3_0 a]
    unfold upd
    by_cases e : a = r
    · rw [if_pos (by rw [e]), if_pos e]
    · rw [if_neg (by omega), if_neg e, mxr3_0 a]
  · rw [mxr3_1 a]
    unfold upd
    rw [if_neg (by omega), mxr3_1 a]
  · rw [mxr3_2 a]
    unfold upd
    rw [if_neg (by omega), mxr3_2 a]
theorem mxu3_1 {g0 g1 g2 : Nat → Int32} (r : Nat) (v : Int32) : upd (mx3 g0 g1 g2) (3 * r + 1) v = mx3 g0 (upd g1 r v) g2 := by
  funext i
  have hi : i = 3 * (i / 3) ∨ i = 3 * (i / 3) + 1 ∨ i = 3 * (i / 3) + 2 := by omega
  generalize i / 3 = a at hi
  rcases hi with rfl | rfl | rfl
  · rw [mxr3_0 a]
    unfold upd
    rw [if_neg (by omega), mxr3_0 a]
  · rw [mxr3_1 a]
    unfold upd
    by_cases e : a = r
    · rw [if_pos (by rw [e]), if_pos e]
    · rw [if_neg (by omega), if_neg e, mxr3_1 a]
  · rw [mxr3_2 a]
    unfold upd
    rw [if_neg (by omega), mxr3_2 a]
theorem mxu3_2 {g0 g1 g2 : Nat → Int32} (r : Nat) (v : Int32) : upd (mx3 g0 g1 g2) (3 * r + 2) v = mx3 g0 g1 (upd g2 r v) := by
  funext i
  have hi : i = 3 * (i / 3) ∨ i = 3 * (i / 3) + 1 ∨ i = 3 * (i / 3) + 2 := by omega
  generalize i / 3 = a at hi
  rcases hi with rfl | rfl | rfl
  · rw [mxr3_0 a]
    unfold upd
    rw [if_neg (by omega), mxr3_0 a]
  · rw [mxr3_1 a]
    unfold upd
    rw [if_neg (by omega), mxr3_1 a]
  · rw [mxr3_2 a]
    unfold upd
    by_cases e : a = r
    · rw [if_pos (by rw [e]), if_pos e]
    · rw [if_neg (by omega), if_neg e, mxr3_2 a]
def mx6 (g0 g1 g2 g3 g4 g5 : Nat → Int32) : Nat → Int32 := fun i => match i % 6 with
  | 0 => g0 (i / 6)
  | 1 => g1 (i / 6)
  | 2 => g2 (i / 6)
  | 3 => g3 (i / 6)
  | 4 => g4 (i / 6)
  | _ => g5 (i / 6)
theorem mxr6_0 {g0 g1 g2 g3 g4 g5 : Nat → Int32} (r : Nat) : mx6 g0 g1 g2 g3 g4 g5 (6 * r) = g0 r := by
  unfold mx6
  rw [show (6 * r) % 6 = 0 by omega, show (6 * r) / 6 = r by omega]
  rfl
theorem mxr6_1 {g0 g1 g2 g3 g4 g5 : Nat → Int32} (r : Nat) : mx6 g0 g1 g2 g3 g4 g5 (6 * r + 1) = g1 r := by
  unfold mx6
  rw [show (6 * r + 1) % 6 = 1 by omega, show (6 * r + 1) / 6 = r by omega]
  rfl
theorem mxr6_2 {g0 g1 g2 g3 g4 g5 : Nat → Int32} (r : Nat) : mx6 g0 g1 g2 g3 g4 g5 (6 * r + 2) = g2 r := by
  unfold mx6
  rw [show (6 * r + 2) % 6 = 2 by omega, show (6 * r + 2) / 6 = r by omega]
  rfl
theorem mxr6_3 {g0 g1 g2 g3 g4 g5 : Nat → Int32} (r : Nat) : mx6 g0 g1 g2 g3 g4 g5 (6 * r + 3) = g3 r := by
  unfold mx6
  rw [show (6 * r + 3) % 6 = 3 by omega, show (6 * r + 3) / 6 = r by omega]
  rfl
theorem mxr6_4 {g0 g1 g2 g3 g4 g5 : Nat → Int32} (r : Nat) : mx6 g0 g1 g2 g3 g4 g5 (6 * r + 4) = g4 r := by
  unfold mx6
  rw [show (6 * r + 4) % 6 = 4 by omega, show (6 * r + 4) / 6 = r by omega]
  rfl
theorem mxr6_5 {g0 g1 g2 g3 g4 g5 : Nat → Int32} (r : Nat) : mx6 g0 g1 g2 g3 g4 g5 (6 * r + 5) = g5 r := by
  unfold mx6
  rw [show (6 * r + 5) % 6 = 5 by omega, show (6 * r + 5) / 6 = r by omega]
  rfl
theorem mxu6_0 {g0 g1 g2 g3 g4 g5 : Nat → Int32} (r : Nat) (v : Int32) : upd (mx6 g0 g1 g2 g3 g4 g5) (6 * r) v = mx6 (upd g0 r v) g1 g2 g3 g4 g5 := by
  funext i
  have hi : i = 6 * (i / 6) ∨ i = 6 * (i / 6) + 1 ∨ i = 6 * (i / 6) + 2 ∨ i = 6 * (i / 6) + 3 ∨ i = 6 * (i / 6) + 4 ∨ i = 6 * (i / 6) + 5 := by omega
  generalize i / 6 = a at hi
  rcases hi with rfl | rfl | rfl | rfl | rfl | rfl
  · rw [mxr6_0 a]
    unfold upd
    by_cases e : a = r
    · rw [if_pos (by rw [e]), if_pos e]
    · rw [if_neg (by omega), if_neg e, mxr6_0 a]
  · rw [mxr6_1 a]
    unfold upd
    rw [if_neg (by omega), mxr6_1 a]
  · rw [mxr6_2 a]
    unfold upd
    rw [if_neg (by omega), mxr6_2 a]
  · rw [mxr6_3 a]
    unfold upd
    rw [if_neg (by omega), mxr6_3 a]
  · rw [mxr6_4 a]
    unfold upd
    rw [if_neg (by omega), mxr6_4 a]
  · rw [mxr6_5 a]
    unfold upd
    rw [if_neg (by omega), mxr6_5 a]
theorem mxu6_1 {g0 g1 g2 g3 g4 g5 : Nat → Int32} (r : Nat) (v : Int32) : upd (mx6 g0 g1 g2 g3 g4 g5) (6 * r + 1) v = mx6 g0 (upd g1 r v) g2 g3 g4 g5 := by
  funext i
  have hi : i = 6 * (i / 6) ∨ i = 6 * (i / 6) + 1 ∨ i = 6 * (i / 6) + 2 ∨ i = 6 * (i / 6) + 3 ∨ i = 6 * (i / 6) + 4 ∨ i = 6 * (i / 6) + 5 := by omega
  generalize i / 6 = a at hi
  rcases hi with rfl | rfl | rfl | rfl | rfl | rfl
  · rw [mxr6_0 a]
    unfold upd
    rw [if_neg (by omega), mxr6_0 a]
  · rw [mxr6_1 a]
    unfold upd
    by_cases e : a = r
    · rw [if_pos (by rw [e]), if_pos e]
    · rw [if_neg (by omega), if_neg e, mxr6_1 a]
  · rw [mxr6_2 a]
    unfold upd
    rw [if_neg (by omega), mxr6_2 a]
  · rw [mxr6_3 a]
    unfold upd
    rw [if_neg (by omega), mxr6_3 a]
  · rw [mxr6_4 a]
    unfold upd
    rw [if_neg (by omega), mxr6_4 a]
  · rw [mxr6_5 a]
    unfold upd
    rw [if_neg (by omega), mxr6_5 a]
theorem mxu6_2 {g0 g1 g2 g3 g4 g5 : Nat → Int32} (r : Nat) (v : Int32) : upd (mx6 g0 g1 g2 g3 g4 g5) (6 * r + 2) v = mx6 g0 g1 (upd g2 r v) g3 g4 g5 := by
  funext i
  have hi : i = 6 * (i / 6) ∨ i = 6 * (i / 6) + 1 ∨ i = 6 * (i / 6) + 2 ∨ i = 6 * (i / 6) + 3 ∨ i = 6 * (i / 6) + 4 ∨ i = 6 * (i / 6) + 5 := by omega
  generalize i / 6 = a at hi
  rcases hi with rfl | rfl | rfl | rfl | rfl | rfl
  · rw [mxr6_0 a]
    unfold upd
    rw [if_neg (by omega), mxr6_0 a]
  · rw [mxr6_1 a]
    unfold upd
    rw [if_neg (by omega), mxr6_1 a]
  · rw [mxr6_2 a]
    unfold upd
    by_cases e : a = r
    · rw [if_pos (by rw [e]), if_pos e]
    · rw [if_neg (by omega), if_neg e, mxr6_2 a]
  · rw [mxr6_3 a]
    unfold upd
    rw [if_neg (by omega), mxr6_3 a]
  · rw [mxr6_4 a]
    unfold upd
    rw [if_neg (by omega), mxr6_4 a]
  · rw [mxr6_5 a]
    unfold upd
    rw [if_neg (by omega), mxr6_5 a]
theorem mxu6_3 {g0 g1 g2 g3 g4 g5 : Nat → Int32} (r : Nat) (v : Int32) : upd (mx6 g0 g1 g2 g3 g4 g5) (6 * r + 3) v = mx6 g0 g1 g2 (upd g3 r v) g4 g5 := by
  funext i
  have hi : i = 6 * (i / 6) ∨ i = 6 * (i / 6) + 1 ∨ i = 6 * (i / 6) + 2 ∨ i = 6 * (i / 6) + 3 ∨ i = 6 * (i / 6) + 4 ∨ i = 6 * (i / 6) + 5 := by omega
  generalize i / 6 = a at hi
  rcases hi with rfl | rfl | rfl | rfl | rfl | rfl
  · rw [mxr6_0 a]
    unfold upd
    rw [if_neg (by omega), mxr6_0 a]
  · rw [mxr6_1 a]
    unfold upd
    rw [if_neg (by omega), mxr6_1 a]
  · rw [mxr6_2 a]
    unfold upd
    rw [if_neg (by omega), mxr6_2 a]
  · rw [mxr6_3 a]
    unfold upd
    by_cases e : a = r
    · rw [if_pos (by rw [e]), if_pos e]
    · rw [if_neg (by omega), if_neg e, mxr6_3 a]
  · rw [mxr6_4 a]
    unfold upd
    rw [if_neg (by omega), mxr6_4 a]
  · rw [mxr6_5 a]
    unfold upd
    rw [if_neg (by omega), mxr6_5 a]
theorem mxu6_4 {g0 g1 g2 g3 g4 g5 : Nat → Int32} (r : Nat) (v : Int32) : upd (mx6 g0 g1 g2 g3 g4 g5) (6 * r + 4) v = mx6 g0 g1 g2 g3 (upd g4 r v) g5 := by
  funext i
  have hi : i = 6 * (i / 6) ∨ i = 6 * (i / 6) + 1 ∨ i = 6 * (i / 6) + 2 ∨ i = 6 * (i / 6) + 3 ∨ i = 6 * (i / 6) + 4 ∨ i = 6 * (i / 6) + 5 := by omega
  generalize i / 6 = a at hi
  rcases hi with rfl | rfl | rfl | rfl | rfl | rfl
  · rw [mxr6_0 a]
    unfold upd
    rw [if_neg (by omega), mxr6_0 a]
  · rw [mxr6_1 a]
    unfold upd
    rw [if_neg (by omega), mxr6_1 a]
  · rw [mxr6_2 a]
    unfold upd
    rw [if_neg (by omega), mxr6_2 a]
  · rw [mxr6_3 a]
    unfold upd
    rw [if_neg (by omega), mxr6_3 a]
  · rw [mxr6_4 a]
    unfold upd
    by_cases e : a = r
    · rw [if_pos (by rw [e]), if_pos e]
    · rw [if_neg (by omega), if_neg e, mxr6_4 a]
  · rw [mxr6_5 a]
    unfold upd
    rw [if_neg (by omega), mxr6_5 a]
theorem mxu6_5 {g0 g1 g2 g3 g4 g5 : Nat → Int32} (r : Nat) (v : Int32) : upd (mx6 g0 g1 g2 g3 g4 g5) (6 * r + 5) v = mx6 g0 g1 g2 g3 g4 (upd g5 r v) := by
  funext i
  have hi : i = 6 * (i / 6) ∨ i = 6 * (i / 6) + 1 ∨ i = 6 * (i / 6) + 2 ∨ i = 6 * (i / 6) + 3 ∨ i = 6 * (i / 6) + 4 ∨ i = 6 * (i / 6) + 5 := by omega
  generalize i / 6 = a at hi
  rcases hi with rfl | rfl | rfl | rfl | rfl | rfl
  · rw [mxr6_0 a]
    unfold upd
    rw [if_neg (by omega), mxr6_0 a]
  · rw [mxr6_1 a]
    unfold upd
    rw [if_neg (by omega), mxr6_1 a]
  · rw [mxr6_2 a]
    unfold upd
    rw [if_neg (by omega), mxr6_2 a]
  · rw [mxr6_3 a]
    unfold upd
    rw [if_neg (by omega), mxr6_3 a]
  · rw [mxr6_4 a]
    unfold upd
    rw [if_neg (by omega), mxr6_4 a]
  · rw [mxr6_5 a]
    unfold upd
    by_cases e : a = r
    · rw [if_pos (by rw [e]), if_pos e]
    · rw [if_neg (by omega), if_neg e, mxr6_5 a]
def mx8 (g0 g1 g2 g3 g4 g5 g6 g7 : Nat → Int32) : Nat → Int32 := fun i => match i % 8 with
  | 0 => g0 (i / 8)
  | 1 => g1 (i / 8)
  | 2 => g2 (i / 8)
  | 3 => g3 (i / 8)
  | 4 => g4 (i / 8)
  | 5 => g5 (i / 8)
  | 6 => g6 (i / 8)
  | _ => g7 (i / 8)
theorem mxr8_0 {g0 g1 g2 g3 g4 g5 g6 g7 : Nat → Int32} (r : Nat) : mx8 g0 g1 g2 g3 g4 g5 g6 g7 (8 * r) = g0 r := by
  unfold mx8
  rw [show (8 * r) % 8 = 0 by omega, show (8 * r) / 8 = r by omega]
  rfl
theorem mxr8_1 {g0 g1 g2 g3 g4 g5 g6 g7 : Nat → Int32} (r : Nat) : mx8 g0 g1 g2 g3 g4 g5 g6 g7 (8 * r + 1) = g1 r := by
  unfold mx8
  rw [show (8 * r + 1) % 8 = 1 by omega, show (8 * r + 1) / 8 = r by omega]
  rfl
theorem mxr8_2 {g0 g1 g2 g3 g4 g5 g6 g7 : Nat → Int32} (r : Nat) : mx8 g0 g1 g2 g3 g4 g5 g6 g7 (8 * r + 2) = g2 r := by
  unfold mx8
  rw [show (8 * r + 2) % 8 = 2 by omega, show (8 * r + 2) / 8 = r by omega]
  rfl
theorem mxr8_3 {g0 g1 g2 g3 g4 g5 g6 g7 : Nat → Int32} (r : Nat) : mx8 g0 g1 g2 g3 g4 g5 g6 g7 (8 * r + 3) = g3 r := by
  unfold mx8
  rw [show (8 * r + 3) % 8 = 3 by omega, show (8 * r + 3) / 8 = r by omega]
  rfl
theorem mxr8_4 {g0 g1 g2 g3 g4 g5 g6 g7 : Nat → Int32} (r : Nat) : mx8 g0 g1 g2 g3 g4 g5 g6 g7 (8 * r + 4) = g4 r := by
  unfold mx8
  rw [show (8 * r + 4) % 8 = 4 by omega, show (8 * r + 4) / 8 = r by omega]
  rfl
theorem mxr8_5 {g0 g1 g2 g3 g4 g5 g6 g7 : Nat → Int32} (r : Nat) : mx8 g0 g1 g2 g3 g4 g5 g6 g7 (8 * r + 5) = g5 r := by
  unfold mx8
  rw [show (8 * r + 5) % 8 = 5 by omega, show (8 * r + 5) / 8 = r by omega]
  rfl
theorem mxr8_6 {g0 g1 g2 g3 g4 g5 g6 g7 : Nat → Int32} (r : Nat) : mx8 g0 g1 g2 g3 g4 g5 g6 g7 (8 * r + 6) = g6 r := by
  unfold mx8
  rw [show (8 * r + 6) % 8 = 6 by omega, show (8 * r + 6) / 8 = r by omega]
  rfl
theorem mxr8_7 {g0 g1 g2 g3 g4 g5 g6 g7 : Nat → Int32} (r : Nat) : mx8 g0 g1 g2 g3 g4 g5 g6 g7 (8 * r + 7) = g7 r := by
  unfold mx8
  rw [show (8 * r + 7) % 8 = 7 by omega, show (8 * r + 7) / 8 = r by omega]
  rfl
theorem mxu8_0 {g0 g1 g2 g3 g4 g5 g6 g7 : Nat → Int32} (r : Nat) (v : Int32) : upd (mx8 g0 g1 g2 g3 g4 g5 g6 g7) (8 * r) v = mx8 (upd g0 r v) g1 g2 g3 g4 g5 g6 g7 := by
  funext i
  have hi : i = 8 * (i / 8) ∨ i = 8 * (i / 8) + 1 ∨ i = 8 * (i / 8) + 2 ∨ i = 8 * (i / 8) + 3 ∨ i = 8 * (i / 8) + 4 ∨ i = 8 * (i / 8) + 5 ∨ i = 8 * (i / 8) + 6 ∨ i = 8 * (i / 8) + 7 := by omega
  generalize i / 8 = a at hi
  rcases hi with rfl | rfl | rfl | rfl | rfl | rfl | rfl | rfl
  · rw [mxr8_0 a]
    unfold upd
    by_cases e : a = r
    · rw [if_pos (by rw [e]), if_pos e]
    · rw [if_neg (by omega), if_neg e, mxr8_0 a]
  · rw [mxr8_1 a]
    unfold upd
    rw [if_neg (by omega), mxr8_1 a]
  · rw [mxr8_2 a]
    unfold upd
    rw [if_neg (by omega), mxr8_2 a]
  · rw [mxr8_3 a]
    unfold upd
    rw [if_neg (by omega), mxr8_3 a]
  · rw [mxr8_4 a]
    unfold upd
    rw [if_neg (by omega), mxr8_4 a]
  · rw [mxr8_5 a]
    unfold upd
    rw [if_neg (by omega), mxr8_5 a]
  · rw [mxr8_6 a]
    unfold upd
    rw [if_neg (by omega), mxr8_6 a]
  · rw [mxr8_7 a]
    unfold upd
    rw [if_neg (by omega), mxr8_7 a]
theorem mxu8_1 {g0 g1 g2 g3 g4 g5 g6 g7 : Nat → Int32} (r : Nat) (v : Int32) : upd (mx8 g0 g1 g2 g3 g4 g5 g6 g7) (8 * r + 1) v = mx8 g0 (upd g1 r v) g2 g3 g4 g5 g6 g7 := by
  funext i
  have hi : i = 8 * (i / 8) ∨ i = 8 * (i / 8) + 1 ∨ i = 8 * (i / 8) + 2 ∨ i = 8 * (i / 8) + 3 ∨ i = 8 * (i / 8) + 4 ∨ i = 8 * (i / 8) + 5 ∨ i = 8 * (i / 8) + 6 ∨ i = 8 * (i / 8) + 7 := by omega
  generalize i / 8 = a at hi
  rcases hi with rfl | rfl | rfl | rfl | rfl | rfl | rfl | rfl
  · rw [mxr8_0 a]
    unfold upd
    rw [if_neg (by omega), mxr8_0 a]
  · rw [mxr8_1 a]
    unfold upd
    by_cases e : a = r
    · rw [if_pos (by rw [e]), if_pos e]
    · rw [if_neg (by omega), if_neg e, mxr8_1 a]
  · rw [mxr8_2 a]
    unfold upd
    rw [if_neg (by omega), mxr8_2 a]
  · rw [mxr8_3 a]
    unfold upd
    rw [if_neg (by omega), mxr8_3 a]
  · rw [mxr8_4 a]
    unfold upd
    rw [if_neg (by omega), mxr8_4 a]
  · rw [mxr8_5 a]
    unfold upd
    rw [if_neg (by omega), mxr8_5 a]
  · rw [mxr8_6 a]
    unfold upd
    rw [if_neg (by omega), mxr8_6 a]
  · rw [mxr8_7 a]
    unfold upd
    rw [if_neg (by omega), mxr8_7 a]
theorem mxu8_2 {g0 g1 g2 g3 g4 g5 g6 g7 : Nat → Int32} (r : Nat) (v : Int32) : upd (mx8 g0 g1 g2 g3 g4 g5 g6 g7) (8 * r + 2) v = mx8 g0 g1 (upd g2 r v) g3 g4 g5 g6 g7 := by
  funext i
  have hi : i = 8 * (i / 8) ∨ i = 8 * (i / 8) + 1 ∨ i = 8 * (i / 8) + 2 ∨ i = 8 * (i / 8) + 3 ∨ i = 8 * (i / 8) + 4 ∨ i = 8 * (i / 8) + 5 ∨ i = 8 * (i / 8) + 6 ∨ i = 8 * (i / 8) + 7 := by omega
  generalize i / 8 = a at hi
  rcases hi with rfl | rfl | rfl | rfl | rfl | rfl | rfl | rfl
  · rw [mxr8_0 a]
    unfold upd
    rw [if_neg (by omega), mxr8_0 a]
  · rw [mxr8_1 a]
    unfold upd
    rw [if_neg (by omega), mxr8_1 a]
  · rw [mxr8_2 a]
    unfold upd
    by_cases e : a = r
    · rw [if_pos (by rw [e]), if_pos e]
    · rw [if_neg (by omega), if_neg e, mxr8_2 a]
  · rw [mxr8_3 a]
    unfold upd
    rw [if_neg (by omega), mxr8_3 a]
  · rw [mxr8_4 a]
    unfold upd
    rw [if_neg (by omega), mxr8_4 a]
  · rw [mxr8_5 a]
    unfold upd
    rw [if_neg (by omega), mxr8_5 a]
  · rw [mxr8_6 a]
    unfold upd
    rw [if_neg (by omega), mxr8_6 a]
  · rw [mxr8_7 a]
    unfold upd
    rw [if_neg (by omega), mxr8_7 a]
theorem mxu8_3 {g0 g1 g2 g3 g4 g5 g6 g7 : Nat → Int32} (r : Nat) (v : Int32) : upd (mx8 g0 g1 g2 g3 g4 g5 g6 g7) (8 * r + 3) v = mx8 g0 g1 g2 (upd g3 r v) g4 g5 g6 g7 := by
  funext i
  have hi : i = 8 * (i / 8) ∨ i = 8 * (i / 8) + 1 ∨ i = 8 * (i / 8) + 2 ∨ i = 8 * (i / 8) + 3 ∨ i = 8 * (i / 8) + 4 ∨ i = 8 * (i / 8) + 5 ∨ i = 8 * (i / 8) + 6 ∨ i = 8 * (i / 8) + 7 := by omega
  generalize i / 8 = a at hi
  rcases hi with rfl | rfl | rfl | rfl | rfl | rfl | rfl | rfl
  · rw [mxr8_0 a]
    unfold upd
    rw [if_neg (by omega), mxr8_0 a]
  · rw [mxr8_1 a]
    unfold upd
    rw [if_neg (by omega), mxr8_1 a]
  · rw [mxr8_2 a]
    unfold upd
    rw [if_neg (by omega), mxr8_2 a]
  · rw [mxr8_3 a]
    unfold upd
    by_cases e : a = r
    · rw [if_pos (by rw [e]), if_pos e]
    · rw [if_neg (by omega), if_neg e, mxr8_3 a]
  · rw [mxr8_4 a]
    unfold upd
    rw [if_neg (by omega), mxr8_4 a]
  · rw [mxr8_5 a]
    unfold upd
    rw [if_neg (by omega), mxr8_5 a]
  · rw [mxr8_6 a]
    unfold upd
    rw [if_neg (by omega), mxr8_6 a]
  · rw [mxr8_7 a]
    unfold upd
    rw [if_neg (by omega), mxr8_7 a]
theorem mxu8_4 {g0 g1 g2 g3 g4 g5 g6 g7 : Nat → Int32} (r : Nat) (v : Int32) : upd (mx8 g0 g1 g2 g3 g4 g5 g6 g7) (8 * r + 4) v = mx8 g0 g1 g2 g3 (upd g4 r v) g5 g6 g7 := by
  funext i
  have hi : i = 8 * (i / 8) ∨ i = 8 * (i / 8) + 1 ∨ i = 8 * (i / 8) + 2 ∨ i = 8 * (i / 8) + 3 ∨ i = 8 * (i / 8) + 4 ∨ i = 8 * (i / 8) + 5 ∨ i = 8 * (i / 8) + 6 ∨ i = 8 * (i / 8) + 7 := by omega
  generalize i / 8 = a at hi
  rcases hi with rfl | rfl | rfl | rfl | rfl | rfl | rfl | rfl
  · rw [mxr8_0 a]
    unfold upd
    rw [if_neg (by omega), mxr8_0 a]
  · rw [mxr8_1 a]
    unfold upd
    rw [if_neg (by omega), mxr8_1 a]
  · rw [mxr8_2 a]
    unfold upd
    rw [if_neg (by omega), mxr8_2 a]
  · rw [mxr8_3 a]
    unfold upd
    rw [if_neg (by omega), mxr8_3 a]
  · rw [mxr8_4 a]
    unfold upd
    by_cases e : a = r
    · rw [if_pos (by rw [e]), if_pos e]
    · rw [if_neg (by omega), if_neg e, mxr8_4 a]
  · rw [mxr8_5 a]
    unfold upd
    rw [if_neg (by omega), mxr8_5 a]
  · rw [mxr8_6 a]
    unfold upd
    rw [if_neg (by omega), mxr8_6 a]
  · rw [mxr8_7 a]
    unfold upd
    rw [if_neg (by omega), mxr8_7 a]
theorem mxu8_5 {g0 g1 g2 g3 g4 g5 g6 g7 : Nat → Int32} (r : Nat) (v : Int32) : upd (mx8 g0 g1 g2 g3 g4 g5 g6 g7) (8 * r + 5) v = mx8 g0 g1 g2 g3 g4 (upd g5 r v) g6 g7 := by
  funext i
  have hi : i = 8 * (i / 8) ∨ i = 8 * (i / 8) + 1 ∨ i = 8 * (i / 8) + 2 ∨ i = 8 * (i / 8) + 3 ∨ i = 8 * (i / 8) + 4 ∨ i = 8 * (i / 8) + 5 ∨ i = 8 * (i / 8) + 6 ∨ i = 8 * (i / 8) + 7 := by omega
  generalize i / 8 = a at hi
  rcases hi with rfl | rfl | rfl | rfl | rfl | rfl | rfl | rfl
  · rw [mxr8_0 a]
    unfold upd
    rw [if_neg (by omega), mxr8_0 a]
  · rw [mxr8_1 a]
    unfold upd
    rw [if_neg (by omega), mxr8_1 a]
  · rw [mxr8_2 a]
    unfold upd
    rw [if_neg (by omega), mxr8_2 a]
  · rw [mxr8_3 a]
    unfold upd
    rw [if_neg (by omega), mxr8_3 a]
  · rw [mxr8_4 a]
    unfold upd
    rw [if_neg (by omega), mxr8_4 a]
  · rw [mxr8_5 a]
    unfold upd
    by_cases e : a = r
    · rw [if_pos (by rw [e]), if_pos e]
    · rw [if_neg (by omega), if_neg e, mxr8_5 a]
  · rw [mxr8_6 a]
    unfold upd
    rw [if_neg (by omega), mxr8_6 a]
  · rw [mxr8_7 a]
    unfold upd
    rw [if_neg (by omega), mxr8_7 a]
theorem mxu8_6 {g0 g1 g2 g3 g4 g5 g6 g7 : Nat → Int32} (r : Nat) (v : Int32) : upd (mx8 g0 g1 g2 g3 g4 g5 g6 g7) (8 * r + 6) v = mx8 g0 g1 g2 g3 g4 g5 (upd g6 r v) g7 := by
  funext i
  have hi : i = 8 * (i / 8) ∨ i = 8 * (i / 8) + 1 ∨ i = 8 * (i / 8) + 2 ∨ i = 8 * (i / 8) + 3 ∨ i = 8 * (i / 8) + 4 ∨ i = 8 * (i / 8) + 5 ∨ i = 8 * (i / 8) + 6 ∨ i = 8 * (i / 8) + 7 := by omega
  generalize i / 8 = a at hi
  rcases hi with rfl | rfl | rfl | rfl | rfl | rfl | rfl | rfl
  · rw [mxr8_0 a]
    unfold upd
    rw [if_neg (by omega), mxr8_0 a]
  · rw [mxr8_1 a]
    unfold upd
    rw [if_neg (by omega), mxr8_1 a]
  · rw [mxr8_2 a]
    unfold upd
    rw [if_neg (by omega), mxr8_2 a]
  · rw [mxr8_3 a]
    unfold upd
    rw [if_neg (by omega), mxr8_3 a]
  · rw [mxr8_4 a]
    unfold upd
    rw [if_neg (by omega), mxr8_4 a]
  · rw [mxr8_5 a]
    unfold upd
    rw [if_neg (by omega), mxr8_5 a]
  · rw [mxr8_6 a]
    unfold upd
    by_cases e : a = r
    · rw [if_pos (by rw [e]), if_pos e]
    · rw [if_neg (by omega), if_neg e, mxr8_6 a]
  · rw [mxr8_7 a]
    unfold upd
    rw [if_neg (by omega), mxr8_7 a]
theorem mxu8_7 {g0 g1 g2 g3 g4 g5 g6 g7 : Nat → Int32} (r : Nat) (v : Int32) : upd (mx8 g0 g1 g2 g3 g4 g5 g6 g7) (8 * r + 7) v = mx8 g0 g1 g2 g3 g4 g5 g6 (upd g7 r v) := by
  funext i
  have hi : i = 8 * (i / 8) ∨ i = 8 * (i / 8) + 1 ∨ i = 8 * (i / 8) + 2 ∨ i = 8 * (i / 8) + 3 ∨ i = 8 * (i / 8) + 4 ∨ i = 8 * (i / 8) + 5 ∨ i = 8 * (i / 8) + 6 ∨ i = 8 * (i / 8) + 7 := by omega
  generalize i / 8 = a at hi
  rcases hi with rfl | rfl | rfl | rfl | rfl | rfl | rfl | rfl
  · rw [mxr8_0 a]
    unfold upd
    rw [if_neg (by omega), mxr8_0 a]
  · rw [mxr8_1 a]
    unfold upd
    rw [if_neg (by omega), mxr8_1 a]
  · rw [mxr8_2 a]
    unfold upd
    rw [if_neg (by omega), mxr8_2 a]
  · rw [mxr8_3 a]
    unfold upd
    rw [if_neg (by omega), mxr8_3 a]
  · rw [mxr8_4 a]
    unfold upd
    rw [if_neg (by omega), mxr8_4 a]
  · rw [mxr8_5 a]
    unfold upd
    rw [if_neg (by omega), mxr8_5 a]
  · rw [mxr8_6 a]
    unfold upd
    rw [if_neg (by omega), mxr8_6 a]
  · rw [mxr8_7 a]
    unfold upd
    by_cases e : a = r
    · rw [if_pos (by rw [e]), if_pos e]
    · rw [if_neg (by omega), if_neg e, mxr8_7 a]
def tw (cI cZ : ClassId) (q : Nat → Nat) (A : Nat → Nat → Int32) : va_W := [(q 0, .inr (7, [.ref (q 1), .ref (q 2), .ref (q 4), .ref (q 5), .ref (q 6), .ref (q 7), .ref (q 32), .int (A 0 7)])), (q 1, .inr (3, [.ref (q 8), .int (A 0 0)])), (q 2, .inr (4, [.ref (q 9), .ref (q 10), .ref (q 11), .ref (q 12), .ref (q 13), .ref (q 14), .ref (q 3), .int (A 0 1)])), (q 3, .inr (1, [.ref (q 15), .ref (q 16), .int (A 0 2)])), (q 4, .inr (0, [.ref (q 17), .ref (q 18), .ref (q 19), .ref (q 20), .ref (q 21), .int (A 0 3)])), (q 5, .inr (5, [.ref (q 22), .ref (q 23), .ref (q 24), .ref (q 25), .ref (q 26), .ref (q 27), .int (A 0 4)])), (q 6, .inr (2, [.ref (q 28), .ref (q 29), .int (A 0 5)])), (q 7, .inr (6, [.ref (q 30), .ref (q 31), .int (A 0 6)])), (q 8, .inl (cZ, 12, .inl (A 1))), (q 9, .inl (cI, 40, .inl (A 2))), (q 10, .inl (cI, 40, .inl (A 3))), (q 11, .inl (cI, 40, .inl (A 4))), (q 12, .inl (cI, 40, .inl (A 5))), (q 13, .inl (cI, 40, .inl (A 6))), (q 14, .inl (cI, 40, .inl (A 7))), (q 15, .inl (cI, 60, .inl (A 8))), (q 16, .inl (cI, 60, .inl (A 9))), (q 17, .inl (cI, 61, .inl (A 10))), (q 18, .inl (cI, 61, .inl (A 11))), (q 19, .inl (cI, 61, .inl (A 12))), (q 20, .inl (cZ, 61, .inl (A 13))), (q 21, .inl (cZ, 61, .inl (A 14))), (q 22, .inl (cI, 151, .inl (A 15))), (q 23, .inl (cI, 151, .inl (A 16))), (q 24, .inl (cI, 151, .inl (A 17))), (q 25, .inl (cI, 151, .inl (A 18))), (q 26, .inl (cI, 151, .inl (A 19))), (q 27, .inl (cI, 151, .inl (A 20))), (q 28, .inl (cI, 61, .inl (A 21))), (q 29, .inl (cI, 150, .inl (A 22))), (q 30, .inl (cI, 100, .inl (A 23))), (q 31, .inl (cI, 100, .inl (A 24))), (q 32, .inl (cI, 150, .inl (A 25)))]
def mw (cI cZ : ClassId) (q : Nat → Nat) (A : Nat → Nat → Int32) : va_W := [(q 0, .inr (8, [.int (A 0 7), .int (A 0 0), .ref (q 1), .int (A 0 1), .ref (q 2), .ref (q 3), .ref (q 4), .int (A 0 2), .int (A 0 3), .ref (q 5), .ref (q 6), .ref (q 7), .int (A 0 4), .ref (q 8), .int (A 0 5), .ref (q 9), .int (A 0 6)])), (q 1, .inl (cZ, 12, .inl (A 1))), (q 2, .inl (cI, 240, .inl (mx6 (A 2) (A 3) (A 4) (A 5) (A 6) (A 7)))), (q 3, .inl (cI, 60, .inl (A 8))), (q 4, .inl (cI, 60, .inl (A 9))), (q 5, .inl (cI, 183, .inl (mx3 (A 11) (A 10) (A 12)))), (q 6, .inl (cZ, 61, .inl (A 13))), (q 7, .inl (cZ, 61, .inl (A 14))), (q 8, .inl (cI, 1208, .inl (mx8 (A 15) (A 16) (A 17) (A 18) (A 19) (A 20) (A 21) (A 22)))), (q 9, .inl (cI, 200, .inl (mx2 (A 23) (A 24))))]
/-- 0 ≤ x < n, as the class asks it; 1 ≤ x ≤ n -/
def hN (n x : Int32) : Bool := !decide (x < 0) && !decide (n ≤ x)
def h1 (n x : Int32) : Bool := !decide (x < 1) && !decide (n < x)
def dC (x : Int32) : Bool := !decide (x < 0) && !decide (99999 < x)
theorem hN_in {n x : Int32} {N : Nat} (h : hN n x = true) (hn : n.toInt ≤ N) : vp_in x N := by
  simp only [hN, Bool.and_eq_true, Bool.not_eq_true', decide_eq_false_iff_not, Int32.lt_iff_toInt_lt, Int32.le_iff_toInt_le] at h
  rw [vp_in_iff]
  have h0 : (0 : Int32).toInt = 0 := rfl
  omega
theorem h1_in {n x : Int32} {N : Nat} (h : h1 n x = true) (hn : n.toInt < N) : vp_in x N := by
  simp only [h1, Bool.and_eq_true, Bool.not_eq_true', decide_eq_false_iff_not, Int32.lt_iff_toInt_lt, Int32.le_iff_toInt_le] at h
  rw [vp_in_iff]
  have h0 : (1 : Int32).toInt = 1 := rfl
  omega
/-- a count: it lies in 0 .. N -/
def cnt (x : Int32) (N : Nat) : Prop := ∃ k : Nat, k ≤ N ∧ x = nI k
theorem cnt_le {x : Int32} {N : Nat} (h : cnt x N) (hN : N < 2 ^ 31) : x.toInt ≤ N := by
  obtain ⟨k, h1, rfl⟩ := h
  rw [nI_toInt (by omega)]
  omega
theorem cnt_lt {x : Int32} {N : Nat} (h : cnt x N) (hN : N < 2 ^ 31) : x.toInt < (N + 1 : Nat) := by
  have := cnt_le h hN
  omega
/-- room is left: the count itself is a place -/
theorem cnt_in {x : Int32} {N : Nat} (h : cnt x N) (hN : N < 2 ^ 31) (hne : ¬ x = nI N) : vp_in x N := by
  obtain ⟨k, h1, rfl⟩ := h
  have : k ≠ N := fun e => hne (by rw [e])
  exact vp_in_nI (by omega) hN
