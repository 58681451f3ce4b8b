/-- the model's best route: with its day -/
def x_qm (A : Rows) (n : Nat) (a b : Int32) (e : Nat) : Nat → Nat → Int32 → Int32 → Int32 × Int32
  | 0, _, best, bd => (best, bd)
  | k + 1, j, best, bd =>
    if joC A (nI j) a b = true then
      if (!decide (x_fst A n (nI j) (100000 - e) e = -1) && (decide (best = -1) || decide (x_fst A n (nI j) (100000 - e) e + A 5 j < bd + A 5 best.toNatClampNeg))) = true
      then x_qm A n a b e k (j + 1) (nI j) (x_fst A n (nI j) (100000 - e) e) else x_qm A n a b e k (j + 1) best bd
    else x_qm A n a b e k (j + 1) best bd
theorem x_qm_s {A : Rows} {n : Nat} {a b : Int32} {e m j : Nat} {best bd : Int32} (h : j < m) : x_qm A n a b e (m - j) j best bd =
    if joC A (nI j) a b = true then
      if (!decide (x_fst A n (nI j) (100000 - e) e = -1) && (decide (best = -1) || decide (x_fst A n (nI j) (100000 - e) e + A 5 j < bd + A 5 best.toNatClampNeg))) = true
      then x_qm A n a b e (m - (j + 1)) (j + 1) (nI j) (x_fst A n (nI j) (100000 - e) e) else x_qm A n a b e (m - (j + 1)) (j + 1) best bd
    else x_qm A n a b e (m - (j + 1)) (j + 1) best bd := by
  obtain ⟨k, hk⟩ : ∃ k, m - j = k + 1 := ⟨m - j - 1, by omega⟩
  rw [hk, show m - (j + 1) = k by omega]
  rfl
/-- the class's and the model's best route are one, and the model's day is the first run -/
theorem x_qm_k {A : Rows} {n : Nat} {a b : Int32} {e : Nat} : ∀ (k j : Nat) (best bd : Int32), j + k < 2 ^ 31 → ((best = -1) ∨ ∃ i, i < 2 ^ 31 ∧ best = nI i ∧ bd = x_fst A n best (100000 - e) e) →
    (x_qm A n a b e k j best bd).1 = x_qk A n a b e k j best (bd + A 5 best.toNatClampNeg) ∧ ((x_qm A n a b e k j best bd).1 = -1 ∨ (x_qm A n a b e k j best bd).2 = x_fst A n (x_qm A n a b e k j best bd).1 (100000 - e) e)
  | 0, j, best, bd, hj, h => ⟨rfl, h.imp id (fun ⟨_, _, _, p⟩ => p)⟩
  | k + 1, j, best, bd, hj, h => by
    unfold x_qm x_qk
    by_cases c1 : joC A (nI j) a b = true
    · rw [if_pos c1, if_pos c1]
      by_cases c2 : (!decide (x_fst A n (nI j) (100000 - e) e = -1) && (decide (best = -1) || decide (x_fst A n (nI j) (100000 - e) e + A 5 j < bd + A 5 best.toNatClampNeg))) = true
      · rw [if_pos c2, if_pos c2]
        have := x_qm_k (A := A) (n := n) (a := a) (b := b) (e := e) k (j + 1) (nI j) (x_fst A n (nI j) (100000 - e) e) (by omega) (Or.inr ⟨j, by omega, rfl, rfl⟩)
        rw [nI_clamp (show j < 2 ^ 31 by omega)] at this
        exact this
      · rw [if_neg c2, if_neg c2]
        exact x_qm_k k (j + 1) best bd (by omega) h
    · rw [if_neg c1, if_neg c1]
      exact x_qm_k k (j + 1) best bd (by omega) h
/-- with no best route the day that stands there says nothing -/
theorem x_qk_0 {A : Rows} {n : Nat} {a b : Int32} {e : Nat} : ∀ (k j : Nat) (x y : Int32), x_qk A n a b e k j (-1) x = x_qk A n a b e k j (-1) y
  | 0, _, _, _ => rfl
  | k + 1, j, x, y => by
    unfold x_qk
    split
    · simp only [decide_true, Bool.true_or, Bool.and_true]
      split
      · rfl
      · exact x_qk_0 k (j + 1) x y
    · exact x_qk_0 k (j + 1) x y
/-- the model's send, in the model's rows (row 11: where a copy stands, or -1) -/
def s_sendM (A : Rows) (nP nR nX nC nS : Nat) (x y d : Int32) : Int32 × Rows :=
  if okS A nP nC nS x y d = true then
    if ¬ A 1 y.toNatClampNeg = 0 then (-2, T0 A)
    else if bS A nR nX x y d = -1 then (-3, T0 A)
    else (nI (nS + 1), (ua (ua (ua (ua (ua (ua (ua (ua A 0 (uz (uz (A 0) 7 0) 4 (nI (nS + 1)))) 11 (upd (A 11) x.toNatClampNeg (-1))) 12 (upd (A 12) x.toNatClampNeg (nI (nS + 1)))) 15 (upd (A 15) (nS + 1) x)) 16 (upd (A 16) (nS + 1) (bS A nR nX x y d))) 18 (upd (A 18) (nS + 1) d)) 19 (upd (A 19) (nS + 1) (x_fst A nX (bS A nR nX x y d) (100000 - eS A x d) (eS A x d)))) 20 (upd (A 20) (nS + 1) (-1))))
  else (0, T0 A)
def s_backM (A : Rows) (nS : Nat) (x : Int32) : Int32 × Rows :=
  if (h1 (nI nS) x && decide (A 17 x.toNatClampNeg = 0)) = true then (1, (ua (ua (ua (ua A 0 (uz (A 0) 7 0)) 11 (upd (A 11) (A 15 x.toNatClampNeg).toNatClampNeg (A 2 (A 16 x.toNatClampNeg).toNatClampNeg))) 12 (upd (A 12) (A 15 x.toNatClampNeg).toNatClampNeg 0)) 17 (upd (A 17) x.toNatClampNeg 5))) else (0, T0 A)
def s_arrM (A : Rows) (nP nS : Nat) (x y d : Int32) : Int32 × Rows :=
  if okA A nP nS x y d = true then
    if A 3 (A 16 x.toNatClampNeg).toNatClampNeg = y then
      if A 14 (A 15 x.toNatClampNeg).toNatClampNeg = 0 then (1, (ua (ua (ua (ua (ua (ua A 0 (uz (A 0) 7 0)) 10 (upd (A 10) (A 15 x.toNatClampNeg).toNatClampNeg (A 10 (A 15 x.toNatClampNeg).toNatClampNeg))) 11 (upd (A 11) (A 15 x.toNatClampNeg).toNatClampNeg y)) 12 (upd (A 12) (A 15 x.toNatClampNeg).toNatClampNeg 0)) 17 (upd (A 17) x.toNatClampNeg 2)) 20 (upd (A 20) x.toNatClampNeg d))) else (1, (ua (ua (ua (ua (ua (ua A 0 (uz (A 0) 7 0)) 10 (upd (A 10) (A 15 x.toNatClampNeg).toNatClampNeg y)) 11 (upd (A 11) (A 15 x.toNatClampNeg).toNatClampNeg y)) 12 (upd (A 12) (A 15 x.toNatClampNeg).toNatClampNeg 0)) 17 (upd (A 17) x.toNatClampNeg 2)) 20 (upd (A 20) x.toNatClampNeg d)))
    else (-1, (ua (ua (ua (ua (ua (ua A 0 (uz (A 0) 7 0)) 10 (upd (A 10) (A 15 x.toNatClampNeg).toNatClampNeg (A 10 (A 15 x.toNatClampNeg).toNatClampNeg))) 11 (upd (A 11) (A 15 x.toNatClampNeg).toNatClampNeg y)) 12 (upd (A 12) (A 15 x.toNatClampNeg).toNatClampNeg 0)) 17 (upd (A 17) x.toNatClampNeg 4)) 20 (upd (A 20) x.toNatClampNeg d)))
  else (0, T0 A)
def dlC (d g : Int32) : Bool := decide (g < d - 14)
/-- the model's lost slips -/
def x_losM (A : Rows) (d : Int32) : Nat → Nat → Int32 → (Nat → Int32) → Int32 × (Nat → Int32)
  | 0, _, c, f => (c, f)
  | k + 1, j, c, f => if f j = 1 ∧ duC A (nI j) < d - 14 then x_losM A d k (j + 1) (c + 1) (upd f j 3) else x_losM A d k (j + 1) c f
theorem x_losM_s {A : Rows} {d : Int32} {n j : Nat} {c : Int32} {f : Nat → Int32} (h : j ≤ n) : x_losM A d (n + 1 - j) j c f = if f j = 1 ∧ duC A (nI j) < d - 14 then x_losM A d (n + 1 - (j + 1)) (j + 1) (c + 1) (upd f j 3) else x_losM A d (n + 1 - (j + 1)) (j + 1) c f := by
  obtain ⟨m, hm⟩ : ∃ m, n + 1 - j = m + 1 := ⟨n - j, by omega⟩
  rw [hm, show n + 1 - (j + 1) = m by omega]
  rfl
/-- the model's search of a load's slip -/
def x_ldM (A : Rows) (x i : Int32) : Nat → Nat → Int32
  | 0, _ => 0
  | k + 1, j => if A 21 j = x ∧ A 22 j = i then nI j else x_ldM A x i k (j + 1)
theorem x_ldM_s {A : Rows} {x i : Int32} {n j : Nat} (h : j ≤ n) : x_ldM A x i (n + 1 - j) j = if A 21 j = x ∧ A 22 j = i then nI j else x_ldM A x i (n + 1 - (j + 1)) (j + 1) := by
  obtain ⟨m, hm⟩ : ∃ m, n + 1 - j = m + 1 := ⟨n - j, by omega⟩
  rw [hm, show n + 1 - (j + 1) = m by omega]
  rfl
/-- ranks -/
def x_cnt (A : Rows) (P : Nat → Bool) (s : Nat) : Nat → Nat → Nat → Nat
  | 0, _, c => c
  | k + 1, t, c => x_cnt A P s k (t + 1) (if (P t && !decide (bfI A (nI t) (nI s) = 0)) = true then c + 1 else c)
theorem x_cnt_s {A : Rows} {P : Nat → Bool} {s n t c : Nat} (h : t ≤ n) : x_cnt A P s (n + 1 - t) t c = x_cnt A P s (n + 1 - (t + 1)) (t + 1) (if (P t && !decide (bfI A (nI t) (nI s) = 0)) = true then c + 1 else c) := by
  obtain ⟨m, hm⟩ : ∃ m, n + 1 - t = m + 1 := ⟨n - t, by omega⟩
  rw [hm, show n + 1 - (t + 1) = m by omega]
  rfl
def x_binM (A : Rows) (P : Nat → Bool) (n : Nat) (i : Int32) : Nat → Nat → Int32
  | 0, _ => 0
  | k + 1, s => if P s = true then (if nI (x_cnt A P s n 1 0) = i then nI s else x_binM A P n i k (s + 1)) else x_binM A P n i k (s + 1)
theorem x_binM_s {A : Rows} {P : Nat → Bool} {n s : Nat} {i : Int32} (h : s ≤ n) : x_binM A P n i (n + 1 - s) s = if P s = true then (if nI (x_cnt A P s n 1 0) = i then nI s else x_binM A P n i (n + 1 - (s + 1)) (s + 1)) else x_binM A P n i (n + 1 - (s + 1)) (s + 1) := by
  obtain ⟨m, hm⟩ : ∃ m, n + 1 - s = m + 1 := ⟨n - s, by omega⟩
  rw [hm, show n + 1 - (s + 1) = m by omega]
  rfl
theorem x_cnt_n {A : Rows} {P : Nat → Bool} {s : Nat} : ∀ (k t c : Nat), x_cnt A P s k t c ≤ c + k
  | 0, _, c => Nat.le_refl _
  | k + 1, t, c => by
    unfold x_cnt
    have := x_cnt_n (A := A) (P := P) (s := s) k (t + 1) (if (P t && !decide (bfI A (nI t) (nI s) = 0)) = true then c + 1 else c)
    refine Nat.le_trans this ?_
    split <;> omega
/-- the model's missing slips of a load: over its places k, over the slips j -/
def x_miJ (A : Rows) (x i : Int32) (p : Nat) : Nat → Nat → Int32 → Option Int32 × Int32
  | 0, _, b => (none, b)
  | k + 1, j, b => if (decide (A 21 j = x) && decide (A 22 j = nI p) && uwC A (nI j)) = true then (if b = i then (some (nI j), b) else x_miJ A x i p k (j + 1) (b + 1)) else x_miJ A x i p k (j + 1) b
theorem x_miJ_s {A : Rows} {x i : Int32} {p n j : Nat} {b : Int32} (h : j ≤ n) : x_miJ A x i p (n + 1 - j) j b = if (decide (A 21 j = x) && decide (A 22 j = nI p) && uwC A (nI j)) = true then (if b = i then (some (nI j), b) else x_miJ A x i p (n + 1 - (j + 1)) (j + 1) (b + 1)) else x_miJ A x i p (n + 1 - (j + 1)) (j + 1) b := by
  obtain ⟨m, hm⟩ : ∃ m, n + 1 - j = m + 1 := ⟨n - j, by omega⟩
  rw [hm, show n + 1 - (j + 1) = m by omega]
  rfl
def x_miM (A : Rows) (n : Nat) (x i : Int32) : Nat → Nat → Int32 → Int32
  | 0, _, _ => 0
  | k + 1, p, b => match x_miJ A x i p n 1 b with
    | (some r, _) => r
    | (none, b2) => x_miM A n x i k (p + 1) b2
theorem x_miM_s {A : Rows} {n : Nat} {x i : Int32} {m p : Nat} {b : Int32} (h : p < m) : x_miM A n x i (m - p) p b = match x_miJ A x i p n 1 b with
    | (some r, _) => r
    | (none, b2) => x_miM A n x i (m - (p + 1)) (p + 1) b2 := by
  obtain ⟨k, hk⟩ : ∃ k, m - p = k + 1 := ⟨m - p - 1, by omega⟩
  rw [hk, show m - (p + 1) = k by omega]
  rfl
def c8 (A : Rows) (k : Nat) : Nat → Int32
  | 0 => A 15 k | 1 => A 16 k | 2 => A 17 k | 3 => A 18 k | 4 => A 19 k | 5 => A 20 k | 6 => A 21 k | _ => A 22 k
def o_whM (A : Rows) (nC : Nat) (x w : Int32) : Int32 :=
  if h1 (nI nC) x = true then
    if w = 0 then A 11 x.toNatClampNeg else if w = 1 then A 10 x.toNatClampNeg else if w = 2 then A 12 x.toNatClampNeg else -1
  else -1
def o_sj (A : Rows) (k : Nat) : Nat → Int32
  | 0 => A 15 k | 1 => A 16 k | 2 => A 17 k | 3 => A 18 k | 4 => A 19 k | 5 => duC A (nI k) | _ => A 20 k
theorem o_slip_j {A : Rows} {nS k : Nat} (hk : k < 2 ^ 31) (h : h1 (nI nS) (nI k) = true) (j : Nat) (hj : j ≤ 6) : o_slip A nS (nI k) (nI j) = o_sj A k j := by
  unfold o_slip
  rw [if_pos h, nI_clamp hk]
  rcases (show j = 0 ∨ j = 1 ∨ j = 2 ∨ j = 3 ∨ j = 4 ∨ j = 5 ∨ j = 6 by omega) with rfl | rfl | rfl | rfl | rfl | rfl | rfl
  · rw [if_pos (by decide)]; rfl
  · rw [if_neg (by decide), if_pos (by decide)]; rfl
  · rw [if_neg (by decide), if_neg (by decide), if_pos (by decide)]; rfl
  · rw [if_neg (by decide), if_neg (by decide), if_neg (by decide), if_pos (by decide)]; rfl
  · rw [if_neg (by decide), if_neg (by decide), if_neg (by decide), if_neg (by decide), if_pos (by decide)]; rfl
  · rw [if_neg (by decide), if_neg (by decide), if_neg (by decide), if_neg (by decide), if_neg (by decide), if_pos (by decide)]; rfl
  · rw [if_neg (by decide), if_neg (by decide), if_neg (by decide), if_neg (by decide), if_neg (by decide), if_neg (by decide), if_pos (by decide)]; rfl
theorem o_slip_out {A : Rows} {nS : Nat} {x w : Int32} (h : w < 0 ∨ ¬ w ≤ 6) : o_slip A nS x w = -1 := by
  unfold o_slip
  split
  · rw [if_neg (by rintro rfl; revert h; decide)]
    rw [if_neg (by rintro rfl; revert h; decide)]
    rw [if_neg (by rintro rfl; revert h; decide)]
    rw [if_neg (by rintro rfl; revert h; decide)]
    rw [if_neg (by rintro rfl; revert h; decide)]
    rw [if_neg (by rintro rfl; revert h; decide)]
    rw [if_neg (by rintro rfl; revert h; decide)]
  · rfl
theorem o_whM_j {A : Rows} {nC k : Nat} (hk : k < 2 ^ 31) (h : h1 (nI nC) (nI k) = true) (j : Nat) (hj : j ≤ 2) : o_whM A nC (nI k) (nI j) = mx3 (A 11) (A 10) (A 12) (3 * k + j) := by
  unfold o_whM
  rw [if_pos h, nI_clamp hk]
  rcases (show j = 0 ∨ j = 1 ∨ j = 2 by omega) with rfl | rfl | rfl
  · rw [if_pos (by decide)]; exact (mxr3_0 k).symm
  · rw [if_neg (by decide), if_pos (by decide)]; exact (mxr3_1 k).symm
  · rw [if_neg (by decide), if_neg (by decide), if_pos (by decide)]; exact (mxr3_2 k).symm
theorem o_whM_out {A : Rows} {nC : Nat} {x w : Int32} (h : w < 0 ∨ ¬ w ≤ 2) : o_whM A nC x w = -1 := by
  unfold o_whM
  split
  · rw [if_neg (by rintro rfl; revert h; decide)]
    rw [if_neg (by rintro rfl; revert h; decide)]
    rw [if_neg (by rintro rfl; revert h; decide)]
  · rfl
theorem o_told_j {A : Rows} {nT k : Nat} (hk : k < 2 ^ 31) (h : hN (nI nT) (nI k) = true) (j : Nat) (hj : j ≤ 1) : o_told A nT (nI k) (nI j) = mx2 (A 23) (A 24) (2 * k + j) := by
  unfold o_told
  rw [if_pos h, nI_clamp hk]
  rcases (show j = 0 ∨ j = 1 by omega) with rfl | rfl
  · rw [if_pos (by decide)]; exact (mxr2_0 k).symm
  · rw [if_neg (by decide), if_pos (by decide)]; exact (mxr2_1 k).symm
theorem o_told_out {A : Rows} {nT : Nat} {x w : Int32} (h : w < 0 ∨ ¬ w ≤ 1) : o_told A nT x w = -1 := by
  unfold o_told
  split
  · rw [if_neg (by rintro rfl; revert h; decide)]
    rw [if_neg (by rintro rfl; revert h; decide)]
  · rfl
theorem i3_lt {x : Int32} (n : Nat) (hn : n < 2 ^ 31) (h0 : ¬ x < 0) (h1 : x ≤ nI n) : ∃ j, j ≤ n ∧ x = nI j := by
  obtain ⟨j, hj, rfl⟩ := nI_of h0
  exact ⟨j, nI_leD h1 hj hn, rfl⟩
