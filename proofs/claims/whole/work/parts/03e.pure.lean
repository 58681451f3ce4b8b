/-- the best route is one of those that are there -/
theorem x_qk_r {A : Rows} {n : Nat} {a b : Int32} {e : Nat} : ∀ (k j : Nat) (best bd : Int32), (best = -1 ∨ ∃ i, i < j ∧ best = nI i) → x_qk A n a b e k j best bd = -1 ∨ ∃ i, i < j + k ∧ x_qk A n a b e k j best bd = nI i
  | 0, j, best, bd, h => h
  | k + 1, j, best, bd, h => by
    have h1 : best = -1 ∨ ∃ i, i < j + 1 ∧ best = nI i := h.imp id (fun ⟨i, p, q⟩ => ⟨i, by omega, q⟩)
    have h2 : nI j = -1 ∨ ∃ i, i < j + 1 ∧ nI j = nI i := Or.inr ⟨j, by omega, rfl⟩
    have e1 : j + (k + 1) = j + 1 + k := by omega
    rw [e1]
    unfold x_qk
    split
    · split
      · exact x_qk_r k (j + 1) _ _ h2
      · exact x_qk_r k (j + 1) _ _ h1
    · exact x_qk_r k (j + 1) _ _ h1
def eS (A : Rows) (x d : Int32) : Nat := if A 13 x.toNatClampNeg = 0 then d.toNatClampNeg + 1 else d.toNatClampNeg
def bS (A : Rows) (nR nX : Nat) (x y d : Int32) : Int32 := x_qk A nX (A 11 x.toNatClampNeg) y (eS A x d) nR 0 (-1) 0
def okS (A : Rows) (nP nC nS : Nat) (x y d : Int32) : Bool := h1 (nI nC) x && hN (nI nP) y && dC d && decide (A 12 x.toNatClampNeg = 0) && !decide (A 11 x.toNatClampNeg = y) && !decide (nS = 150)
def s_send (A : Rows) (nP nR nX nC nS : Nat) (x y d : Int32) : Int32 × Rows :=
  if okS A nP nC nS x y d = true then
    if A 1 y.toNatClampNeg = 0 then (-2, A)
    else if bS A nR nX x y d = -1 then (-3, A)
    else (nI (nS + 1), (ua (ua (ua (ua (ua (ua (ua (ua A 0 (uz (A 0) 4 (nI (nS + 1)))) 12 (upd (A 12) x.toNatClampNeg (nI (nS + 1)))) 15 (upd (A 15) (nS + 1) x)) 16 (upd (A 16) (nS + 1) (bS A nR nX x y d))) 17 (upd (A 17) (nS + 1) 0)) 18 (upd (A 18) (nS + 1) d)) 19 (upd (A 19) (nS + 1) (x_fst A nX (bS A nR nX x y d) (100000 - eS A x d) (eS A x d)))) 20 (upd (A 20) (nS + 1) (-1))))
  else (0, A)
def s_back (A : Rows) (nS : Nat) (x : Int32) : Int32 × Rows :=
  if (h1 (nI nS) x && decide (A 17 x.toNatClampNeg = 0)) = true then (1, (ua (ua A 12 (upd (A 12) (A 15 x.toNatClampNeg).toNatClampNeg 0)) 17 (upd (A 17) x.toNatClampNeg 5))) else (0, A)
def okA (A : Rows) (nP nS : Nat) (x y d : Int32) : Bool := h1 (nI nS) x && hN (nI nP) y && dC d && uwC A x && decide (A 19 x.toNatClampNeg ≤ d)
def s_arr (A : Rows) (nP nS : Nat) (x y d : Int32) : Int32 × Rows :=
  if okA A nP nS x y d = true then
    if A 3 (A 16 x.toNatClampNeg).toNatClampNeg = y then
      if A 14 (A 15 x.toNatClampNeg).toNatClampNeg = 0 then (1, (ua (ua (ua (ua A 11 (upd (A 11) (A 15 x.toNatClampNeg).toNatClampNeg y)) 12 (upd (A 12) (A 15 x.toNatClampNeg).toNatClampNeg 0)) 17 (upd (A 17) x.toNatClampNeg 2)) 20 (upd (A 20) x.toNatClampNeg d))) else (1, (ua (ua (ua (ua (ua A 10 (upd (A 10) (A 15 x.toNatClampNeg).toNatClampNeg y)) 11 (upd (A 11) (A 15 x.toNatClampNeg).toNatClampNeg y)) 12 (upd (A 12) (A 15 x.toNatClampNeg).toNatClampNeg 0)) 17 (upd (A 17) x.toNatClampNeg 2)) 20 (upd (A 20) x.toNatClampNeg d)))
    else (-1, (ua (ua (ua (ua A 11 (upd (A 11) (A 15 x.toNatClampNeg).toNatClampNeg y)) 12 (upd (A 12) (A 15 x.toNatClampNeg).toNatClampNeg 0)) 17 (upd (A 17) x.toNatClampNeg 4)) 20 (upd (A 20) x.toNatClampNeg d)))
  else (0, A)
/-- from slip j on, k slips: c lost so far, f the states -/
def x_lost (A : Rows) (d : Int32) : Nat → Nat → Int32 → (Nat → Int32) → Int32 × (Nat → Int32)
  | 0, _, c, f => (c, f)
  | k + 1, j, c, f => if f j = 1 ∧ 14 < d - duC A (nI j) then x_lost A d k (j + 1) (c + 1) (upd f j 3) else x_lost A d k (j + 1) c f
theorem x_lost_s {A : Rows} {d : Int32} {n j : Nat} {c : Int32} {f : Nat → Int32} (h : j ≤ n) : x_lost A d (n + 1 - j) j c f = if f j = 1 ∧ 14 < d - duC A (nI j) then x_lost A d (n + 1 - (j + 1)) (j + 1) (c + 1) (upd f j 3) else x_lost A d (n + 1 - (j + 1)) (j + 1) c f := by
  obtain ⟨m, hm⟩ : ∃ m, n + 1 - j = m + 1 := ⟨n - j, by omega⟩
  rw [hm, show n + 1 - (j + 1) = m by omega]
  rfl
def o_slip (A : Rows) (nS : Nat) (x w : Int32) : Int32 :=
  if h1 (nI nS) x = true then
    if w = 0 then A 15 x.toNatClampNeg else if w = 1 then A 16 x.toNatClampNeg else if w = 2 then A 17 x.toNatClampNeg else if w = 3 then A 18 x.toNatClampNeg else if w = 4 then A 19 x.toNatClampNeg else if w = 5 then duC A x else if w = 6 then A 20 x.toNatClampNeg else -1
  else -1
def o_wh (A : Rows) (nC : Nat) (x w : Int32) : Int32 :=
  if h1 (nI nC) x = true then
    if w = 0 then (if A 12 x.toNatClampNeg = 0 then A 11 x.toNatClampNeg else -1) else if w = 1 then A 10 x.toNatClampNeg else if w = 2 then A 12 x.toNatClampNeg else -1
  else -1
def o_told (A : Rows) (nT : Nat) (x w : Int32) : Int32 :=
  if hN (nI nT) x = true then if w = 0 then A 23 x.toNatClampNeg else if w = 1 then A 24 x.toNatClampNeg else -1 else -1
/-- where the loads end: row 21 holds E, that grows, up to 150 -/
def enC (A : Rows) (nL : Nat) (E : Nat → Nat) : Prop := (∀ k, k ≤ nL → A 21 k = nI (E k)) ∧ (∀ k, k < nL → E k ≤ E (k + 1)) ∧ E nL ≤ 150
theorem enC_le {A : Rows} {nL : Nat} {E : Nat → Nat} (h : enC A nL E) : ∀ k, k ≤ nL → E k ≤ 150 := fun k hk => by
  have key : ∀ d k, k + d = nL → E k ≤ E nL := by
    intro d
    induction d with
    | zero => intro k hk; rw [show k = nL by omega]; exact Nat.le_refl _
    | succ d ih => intro k hk; exact Nat.le_trans (h.2.1 k (by omega)) (ih (k + 1) (by omega))
  exact Nat.le_trans (key (nL - k) k (by omega)) h.2.2
theorem enC_in {A : Rows} {nL : Nat} {E : Nat → Nat} (h : enC A nL E) {k : Nat} (hk : k < nL) {i : Int32} (h0 : ¬ i < 0) (h1 : i < A 21 (k + 1) - A 21 k) : vp_in (A 21 k + i) 150 := by
  have a1 := enC_le h (k + 1) (by omega)
  have a2 := enC_le h k (by omega)
  rw [h.1 k (by omega), h.1 (k + 1) (by omega), pk_sub (h.2.1 k hk)] at h1
  obtain ⟨j, hj, rfl⟩ := nI_of h0
  have := nI_ltD h1 hj (by omega)
  rw [h.1 k (by omega), nI_add]
  exact vp_in_nI (by omega) (by omega)
def o_ld (A : Rows) (nL : Nat) (x i : Int32) : Int32 :=
  if (h1 (nI nL) x && !decide (i < 0) && decide (i < A 21 x.toNatClampNeg - A 21 (x.toNatClampNeg - 1))) = true then A 22 (A 21 (x.toNatClampNeg - 1) + i).toNatClampNeg else 0
def x_mis (A : Rows) (k0 : Nat) (i : Int32) : Nat → Nat → Int32 → Int32
  | 0, _, _ => 0
  | m + 1, k, b => if uwC A (A 22 (A 21 k0 + nI k).toNatClampNeg) = true then (if b = i then A 22 (A 21 k0 + nI k).toNatClampNeg else x_mis A k0 i m (k + 1) (b + 1)) else x_mis A k0 i m (k + 1) b
theorem x_mis_s {A : Rows} {k0 : Nat} {i b : Int32} {n k : Nat} (h : k < n) : x_mis A k0 i (n - k) k b = if uwC A (A 22 (A 21 k0 + nI k).toNatClampNeg) = true then (if b = i then A 22 (A 21 k0 + nI k).toNatClampNeg else x_mis A k0 i (n - (k + 1)) (k + 1) (b + 1)) else x_mis A k0 i (n - (k + 1)) (k + 1) b := by
  obtain ⟨m, hm⟩ : ∃ m, n - k = m + 1 := ⟨n - k - 1, by omega⟩
  rw [hm, show n - (k + 1) = m by omega]
  rfl
def o_mis (A : Rows) (nL : Nat) (E : Nat → Nat) (x i : Int32) : Int32 :=
  if (h1 (nI nL) x && !decide (i < 0)) = true then x_mis A (x.toNatClampNeg - 1) i (E x.toNatClampNeg - E (x.toNatClampNeg - 1)) 0 0 else 0
theorem sw_lk {a b : Int} {x : Int32} {p q dflt : Int} (h1 : ¬ x.toInt = a) (h2 : ¬ x.toInt = b) : Op.lookupswitch.offset [(a, p), (b, q)] dflt x.toInt = dflt := by
  simp [Op.lookupswitch.offset, List.find?, h1, h2, Ne.symm h1, Ne.symm h2, eq_comm]
theorem i3_ne {x c : Int32} {z : Int} (h : ¬ x = c) (e : c.toInt = z) : ¬ x.toInt = z := fun q => h (Int32.toInt_inj.mp (q.trans e.symm))
