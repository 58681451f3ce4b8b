/-- the first place from k on (n places are left) where f is a and g is b; -1 if there is none -/
def x_find (f g : Nat → Int32) (a b : Int32) : Nat → Nat → Int32
  | 0, _ => -1
  | n + 1, k => if f k = a ∧ g k = b then nI k else x_find f g a b n (k + 1)
theorem x_find_s {f g : Nat → Int32} {a b : Int32} {n k : Nat} (h : k < n) : x_find f g a b (n - k) k = if f k = a ∧ g k = b then nI k else x_find f g a b (n - (k + 1)) (k + 1) := by
  obtain ⟨m, hm⟩ : ∃ m, n - k = m + 1 := ⟨n - k - 1, by omega⟩
  rw [hm, show n - (k + 1) = m by omega]
  rfl
theorem x_find_e {f g : Nat → Int32} {a b : Int32} {n : Nat} : x_find f g a b (n - n) n = -1 := by rw [Nat.sub_self]; rfl
theorem x_find_r {f g : Nat → Int32} {a b : Int32} : ∀ (n k : Nat), x_find f g a b n k = -1 ∨ ∃ j, k ≤ j ∧ j < k + n ∧ x_find f g a b n k = nI j ∧ f j = a ∧ g j = b
  | 0, _ => Or.inl rfl
  | n + 1, k => by
    unfold x_find
    split
    · rename_i h
      exact Or.inr ⟨k, Nat.le_refl _, by omega, rfl, h.1, h.2⟩
    · rcases x_find_r (f := f) (g := g) (a := a) (b := b) n (k + 1) with h | ⟨j, h1, h2, h3⟩
      · exact Or.inl h
      · exact Or.inr ⟨j, by omega, by omega, h3⟩
theorem nI_leD {a b : Nat} (h : nI a ≤ nI b) (ha : a < 2 ^ 31) (hb : b < 2 ^ 31) : a ≤ b := (nI_leI ha hb).mp h
theorem nI_nleD {a b : Nat} (h : ¬ nI a ≤ nI b) (ha : a < 2 ^ 31) (hb : b < 2 ^ 31) : b < a := by
  rcases Nat.lt_or_ge b a with q | q
  · exact q
  · exact absurd ((nI_leI ha hb).mpr q) h
theorem nI_ltD {a b : Nat} (h : nI a < nI b) (ha : a < 2 ^ 31) (hb : b < 2 ^ 31) : a < b := (nI_ltI ha hb).mp h
theorem nI_nltD {a b : Nat} (h : ¬ nI a < nI b) (ha : a < 2 ^ 31) (hb : b < 2 ^ 31) : b ≤ a := by
  rcases Nat.lt_or_ge a b with q | q
  · exact absurd ((nI_ltI ha hb).mpr q) h
  · exact q
theorem nI_neD {a b : Nat} (h : ¬ nI a = nI b) : a ≠ b := fun e => h (by rw [e])
theorem nI_eqD {a b : Nat} (h : nI a = nI b) (ha : a < 2 ^ 31) (hb : b < 2 ^ 31) : a = b := (nI_eq ha hb).mp h
theorem nI_nm1 {j : Nat} (h : j < 2 ^ 31) : ¬ nI j = -1 := fun e => by
  have h1 := nI_toInt h
  rw [e] at h1
  have : (-1 : Int32).toInt = -1 := rfl
  omega
/-- a route joins two places -/
def joC (A : Rows) (r a b : Int32) : Bool := decide (A 2 r.toNatClampNeg = a) && decide (A 3 r.toNatClampNeg = b)
/-- a route runs on a day (n days are left out) -/
def ruC (A : Rows) (n : Nat) (r d : Int32) : Bool := decide ((A 4 r.toNatClampNeg >>> ((d - d / 7 * 7) &&& 31)) &&& 1 = 1) && decide (x_find (A 8) (A 9) r d n 0 = -1)
/-- the first day from t on (k days are left) on which it runs; -1 if there is none -/
def x_fst (A : Rows) (n : Nat) (r : Int32) : Nat → Nat → Int32
  | 0, _ => -1
  | k + 1, t => if ruC A n r (nI t) = true then nI t else x_fst A n r k (t + 1)
theorem x_fst_s {A : Rows} {n : Nat} {r : Int32} {t : Nat} (h : t < 100000) : x_fst A n r (100000 - t) t = if ruC A n r (nI t) = true then nI t else x_fst A n r (100000 - (t + 1)) (t + 1) := by
  obtain ⟨m, hm⟩ : ∃ m, 100000 - t = m + 1 := ⟨100000 - t - 1, by omega⟩
  rw [hm, show 100000 - (t + 1) = m by omega]
  rfl
/-- the route that comes first: k routes are left from j on, best and its day so far -/
def x_qk (A : Rows) (n : Nat) (a b : Int32) (e : Nat) : Nat → Nat → Int32 → Int32 → Int32
  | 0, _, best, _ => best
  | k + 1, j, best, bd =>
    if joC A (nI j) a b = true then
      if (!decide (x_fst A n (nI j) (100000 - e) e = -1) && (decide (best = -1) || decide (x_fst A n (nI j) (100000 - e) e + A 5 j < bd))) = true
      then x_qk A n a b e k (j + 1) (nI j) (x_fst A n (nI j) (100000 - e) e + A 5 j) else x_qk A n a b e k (j + 1) best bd
    else x_qk A n a b e k (j + 1) best bd
theorem x_qk_s {A : Rows} {n : Nat} {a b : Int32} {e m j : Nat} {best bd : Int32} (h : j < m) : x_qk A n a b e (m - j) j best bd =
    if joC A (nI j) a b = true then
      if (!decide (x_fst A n (nI j) (100000 - e) e = -1) && (decide (best = -1) || decide (x_fst A n (nI j) (100000 - e) e + A 5 j < bd))) = true
      then x_qk A n a b e (m - (j + 1)) (j + 1) (nI j) (x_fst A n (nI j) (100000 - e) e + A 5 j) else x_qk A n a b e (m - (j + 1)) (j + 1) best bd
    else x_qk A n a b e (m - (j + 1)) (j + 1) best bd := by
  obtain ⟨k, hk⟩ : ∃ k, m - j = k + 1 := ⟨m - j - 1, by omega⟩
  rw [hk, show m - (j + 1) = k by omega]
  rfl
def uwC (A : Rows) (s : Int32) : Bool := decide (A 17 s.toNatClampNeg = 1) || decide (A 17 s.toNatClampNeg = 3)
