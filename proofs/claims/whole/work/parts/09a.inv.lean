/-- what ties the class's rows to the model's -/
def Inv (A B : Rows) (nP nR nX nC nS nL nT : Nat) (E : Nat → Nat) : Prop :=
  (A 0 0 = nI nP) ∧
  (B 0 0 = nI nP) ∧
  (nP ≤ 12) ∧
  (A 0 1 = nI nR) ∧
  (B 0 1 = nI nR) ∧
  (nR ≤ 40) ∧
  (A 0 2 = nI nX) ∧
  (B 0 2 = nI nX) ∧
  (nX ≤ 60) ∧
  (A 0 3 = nI nC) ∧
  (B 0 3 = nI nC) ∧
  (nC ≤ 60) ∧
  (A 0 4 = nI nS) ∧
  (B 0 4 = nI nS) ∧
  (nS ≤ 150) ∧
  (A 0 5 = nI nL) ∧
  (B 0 5 = nI nL) ∧
  (nL ≤ 60) ∧
  (A 0 6 = nI nT) ∧
  (B 0 6 = nI nT) ∧
  (nT ≤ 100) ∧
  (B 2 = A 2) ∧
  (B 3 = A 3) ∧
  (B 4 = A 4) ∧
  (B 5 = A 5) ∧
  (B 6 = A 6) ∧
  (B 7 = A 7) ∧
  (B 8 = A 8) ∧
  (B 9 = A 9) ∧
  (B 10 = A 10) ∧
  (B 12 = A 12) ∧
  (B 13 = A 13) ∧
  (B 14 = A 14) ∧
  (B 15 = A 15) ∧
  (B 16 = A 16) ∧
  (B 17 = A 17) ∧
  (B 18 = A 18) ∧
  (B 19 = A 19) ∧
  (B 20 = A 20) ∧
  (B 23 = A 23) ∧
  (B 24 = A 24) ∧
  (∀ j, vp_in (A 15 j) 61) ∧
  (∀ j, vp_in (A 16 j) 40) ∧
  (∀ j, vp_in (A 22 j) 151) ∧
  (∀ j, vp_in (A 25 j) 151) ∧
  (∀ j, vp_in (A 3 j) 12) ∧
  (∀ j, vp_in (A 5 j) 31) ∧
  (∀ j, vp_in (A 6 j) 100) ∧
  (∀ j, vp_in (A 19 j) 100000) ∧
  (∀ j, isB (A 1 j)) ∧
  (∀ j, isB (B 1 j)) ∧
  (∀ j, isB (A 13 j)) ∧
  (∀ j, isB (A 14 j)) ∧
  (∀ j, j < nP → B 1 j = b2 (decide (A 1 j = 0))) ∧
  (∀ j, nP ≤ j → B 1 j = 0) ∧
  (∀ c, 1 ≤ c → c ≤ nC → B 11 c = if A 12 c = 0 then A 11 c else -1) ∧
  (∀ s, 1 ≤ s → s ≤ nS → A 17 s = 0 → A 11 (A 15 s).toNatClampNeg = A 2 (A 16 s).toNatClampNeg) ∧
  (∀ s, 1 ≤ s → s ≤ nS → (A 17 s = 0 ∨ A 17 s = 1 ∨ A 17 s = 3) → A 12 (A 15 s).toNatClampNeg = nI s) ∧
  (∀ s, 1 ≤ s → s ≤ nS → 1 ≤ (A 15 s).toNatClampNeg ∧ (A 15 s).toNatClampNeg ≤ nC) ∧
  (∀ s, nS < s → A 17 s = 0) ∧
  (∀ s, 1 ≤ s → s ≤ nS → (A 16 s).toNatClampNeg < nR) ∧
  (∀ r, r < nR → (A 3 r).toNatClampNeg < nP) ∧
  (∀ c, nC < c → A 12 c = 0) ∧
  (enC A nL E) ∧
  (E 0 = 0) ∧
  (∀ k i, k < nL → E k + i < E (k + 1) → ∃ s, 1 ≤ s ∧ s ≤ 150 ∧ A 22 (E k + i) = nI s ∧ B 21 s = nI (k + 1) ∧ B 22 s = nI i) ∧
  (∀ s, B 21 s = 0 ∨ ∃ k i, k < nL ∧ E k + i < E (k + 1) ∧ B 21 s = nI (k + 1) ∧ B 22 s = nI i ∧ A 22 (E k + i) = nI s ∧ ¬ A 17 s = 0) ∧
  (∀ s, nS < s → B 21 s = 0) ∧
  (∀ k, k < nL → E (k + 1) - E k ≤ 99)
theorem iv_cP {A B : Rows} {nP nR nX nC nS nL nT : Nat} {E : Nat → Nat} (h : Inv A B nP nR nX nC nS nL nT E) : A 0 0 = nI nP := h.1
theorem iv_mP {A B : Rows} {nP nR nX nC nS nL nT : Nat} {E : Nat → Nat} (h : Inv A B nP nR nX nC nS nL nT E) : B 0 0 = nI nP := h.2.1
theorem iv_lP {A B : Rows} {nP nR nX nC nS nL nT : Nat} {E : Nat → Nat} (h : Inv A B nP nR nX nC nS nL nT E) : nP ≤ 12 := h.2.2.1
theorem iv_cR {A B : Rows} {nP nR nX nC nS nL nT : Nat} {E : Nat → Nat} (h : Inv A B nP nR nX nC nS nL nT E) : A 0 1 = nI nR := h.2.2.2.1
theorem iv_mR {A B : Rows} {nP nR nX nC nS nL nT : Nat} {E : Nat → Nat} (h : Inv A B nP nR nX nC nS nL nT E) : B 0 1 = nI nR := h.2.2.2.2.1
theorem iv_lR {A B : Rows} {nP nR nX nC nS nL nT : Nat} {E : Nat → Nat} (h : Inv A B nP nR nX nC nS nL nT E) : nR ≤ 40 := h.2.2.2.2.2.1
theorem iv_cX {A B : Rows} {nP nR nX nC nS nL nT : Nat} {E : Nat → Nat} (h : Inv A B nP nR nX nC nS nL nT E) : A 0 2 = nI nX := h.2.2.2.2.2.2.1
theorem iv_mX {A B : Rows} {nP nR nX nC nS nL nT : Nat} {E : Nat → Nat} (h : Inv A B nP nR nX nC nS nL nT E) : B 0 2 = nI nX := h.2.2.2.2.2.2.2.1
theorem iv_lX {A B : Rows} {nP nR nX nC nS nL nT : Nat} {E : Nat → Nat} (h : Inv A B nP nR nX nC nS nL nT E) : nX ≤ 60 := h.2.2.2.2.2.2.2.2.1
theorem iv_cC {A B : Rows} {nP nR nX nC nS nL nT : Nat} {E : Nat → Nat} (h : Inv A B nP nR nX nC nS nL nT E) : A 0 3 = nI nC := h.2.2.2.2.2.2.2.2.2.1
theorem iv_mC {A B : Rows} {nP nR nX nC nS nL nT : Nat} {E : Nat → Nat} (h : Inv A B nP nR nX nC nS nL nT E) : B 0 3 = nI nC := h.2.2.2.2.2.2.2.2.2.2.1
theorem iv_lC {A B : Rows} {nP nR nX nC nS nL nT : Nat} {E : Nat → Nat} (h : Inv A B nP nR nX nC nS nL nT E) : nC ≤ 60 := h.2.2.2.2.2.2.2.2.2.2.2.1
theorem iv_cS {A B : Rows} {nP nR nX nC nS nL nT : Nat} {E : Nat → Nat} (h : Inv A B nP nR nX nC nS nL nT E) : A 0 4 = nI nS := h.2.2.2.2.2.2.2.2.2.2.2.2.1
theorem iv_mS {A B : Rows} {nP nR nX nC nS nL nT : Nat} {E : Nat → Nat} (h : Inv A B nP nR nX nC nS nL nT E) : B 0 4 = nI nS := h.2.2.2.2.2.2.2.2.2.2.2.2.2.1
theorem iv_lS {A B : Rows} {nP nR nX nC nS nL nT : Nat} {E : Nat → Nat} (h : Inv A B nP nR nX nC nS nL nT E) : nS ≤ 150 := h.2.2.2.2.2.2.2.2.2.2.2.2.2.2.1
theorem iv_cL {A B : Rows} {nP nR nX nC nS nL nT : Nat} {E : Nat → Nat} (h : Inv A B nP nR nX nC nS nL nT E) : A 0 5 = nI nL := h.2.2.2.2.2.2.2.2.2.2.2.2.2.2.2.1
theorem iv_mL {A B : Rows} {nP nR nX nC nS nL nT : Nat} {E : Nat → Nat} (h : Inv A B nP nR nX nC nS nL nT E) : B 0 5 = nI nL := h.2.2.2.2.2.2.2.2.2.2.2.2.2.2.2.2.1
theorem iv_lL {A B : Rows} {nP nR nX nC nS nL nT : Nat} {E : Nat → Nat} (h : Inv A B nP nR nX nC nS nL nT E) : nL ≤ 60 := h.2.2.2.2.2.2.2.2.2.2.2.2.2.2.2.2.2.1
theorem iv_cT {A B : Rows} {nP nR nX nC nS nL nT : Nat} {E : Nat → Nat} (h : Inv A B nP nR nX nC nS nL nT E) : A 0 6 = nI nT := h.2.2.2.2.2.2.2.2.2.2.2.2.2.2.2.2.2.2.1
theorem iv_mT {A B : Rows} {nP nR nX nC nS nL nT : Nat} {E : Nat → Nat} (h : Inv A B nP nR nX nC nS nL nT E) : B 0 6 = nI nT := h.2.2.2.2.2.2.2.2.2.2.2.2.2.2.2.2.2.2.2.1
theorem iv_lT {A B : Rows} {nP nR nX nC nS nL nT : Nat} {E : Nat → Nat} (h : Inv A B nP nR nX nC nS nL nT E) : nT ≤ 100 := h.2.2.2.2.2.2.2.2.2.2.2.2.2.2.2.2.2.2.2.2.1
theorem iv_e2 {A B : Rows} {nP nR nX nC nS nL nT : Nat} {E : Nat → Nat} (h : Inv A B nP nR nX nC nS nL nT E) : B 2 = A 2 := h.2.2.2.2.2.2.2.2.2.2.2.2.2.2.2.2.2.2.2.2.2.1
theorem iv_e3 {A B : Rows} {nP nR nX nC nS nL nT : Nat} {E : Nat → Nat} (h : Inv A B nP nR nX nC nS nL nT E) : B 3 = A 3 := h.2.2.2.2.2.2.2.2.2.2.2.2.2.2.2.2.2.2.2.2.2.2.1
theorem iv_e4 {A B : Rows} {nP nR nX nC nS nL nT : Nat} {E : Nat → Nat} (h : Inv A B nP nR nX nC nS nL nT E) : B 4 = A 4 := h.2.2.2.2.2.2.2.2.2.2.2.2.2.2.2.2.2.2.2.2.2.2.2.1
theorem iv_e5 {A B : Rows} {nP nR nX nC nS nL nT : Nat} {E : Nat → Nat} (h : Inv A B nP nR nX nC nS nL nT E) : B 5 = A 5 := h.2.2.2.2.2.2.2.2.2.2.2.2.2.2.2.2.2.2.2.2.2.2.2.2.1
theorem iv_e6 {A B : Rows} {nP nR nX nC nS nL nT : Nat} {E : Nat → Nat} (h : Inv A B nP nR nX nC nS nL nT E) : B 6 = A 6 := h.2.2.2.2.2.2.2.2.2.2.2.2.2.2.2.2.2.2.2.2.2.2.2.2.2.1
theorem iv_e7 {A B : Rows} {nP nR nX nC nS nL nT : Nat} {E : Nat → Nat} (h : Inv A B nP nR nX nC nS nL nT E) : B 7 = A 7 := h.2.2.2.2.2.2.2.2.2.2.2.2.2.2.2.2.2.2.2.2.2.2.2.2.2.2.1
theorem iv_e8 {A B : Rows} {nP nR nX nC nS nL nT : Nat} {E : Nat → Nat} (h : Inv A B nP nR nX nC nS nL nT E) : B 8 = A 8 := h.2.2.2.2.2.2.2.2.2.2.2.2.2.2.2.2.2.2.2.2.2.2.2.2.2.2.2.1
theorem iv_e9 {A B : Rows} {nP nR nX nC nS nL nT : Nat} {E : Nat → Nat} (h : Inv A B nP nR nX nC nS nL nT E) : B 9 = A 9 := h.2.2.2.2.2.2.2.2.2.2.2.2.2.2.2.2.2.2.2.2.2.2.2.2.2.2.2.2.1
theorem iv_e10 {A B : Rows} {nP nR nX nC nS nL nT : Nat} {E : Nat → Nat} (h : Inv A B nP nR nX nC nS nL nT E) : B 10 = A 10 := h.2.2.2.2.2.2.2.2.2.2.2.2.2.2.2.2.2.2.2.2.2.2.2.2.2.2.2.2.2.1
theorem iv_e12 {A B : Rows} {nP nR nX nC nS nL nT : Nat} {E : Nat → Nat} (h : Inv A B nP nR nX nC nS nL nT E) : B 12 = A 12 := h.2.2.2.2.2.2.2.2.2.2.2.2.2.2.2.2.2.2.2.2.2.2.2.2.2.2.2.2.2.2.1
theorem iv_e13 {A B : Rows} {nP nR nX nC nS nL nT : Nat} {E : Nat → Nat} (h : Inv A B nP nR nX nC nS nL nT E) : B 13 = A 13 := h.2.2.2.2.2.2.2.2.2.2.2.2.2.2.2.2.2.2.2.2.2.2.2.2.2.2.2.2.2.2.2.1
theorem iv_e14 {A B : Rows} {nP nR nX nC nS nL nT : Nat} {E : Nat → Nat} (h : Inv A B nP nR nX nC nS nL nT E) : B 14 = A 14 := h.2.2.2.2.2.2.2.2.2.2.2.2.2.2.2.2.2.2.2.2.2.2.2.2.2.2.2.2.2.2.2.2.1
theorem iv_e15 {A B : Rows} {nP nR nX nC nS nL nT : Nat} {E : Nat → Nat} (h : Inv A B nP nR nX nC nS nL nT E) : B 15 = A 15 := h.2.2.2.2.2.2.2.2.2.2.2.2.2.2.2.2.2.2.2.2.2.2.2.2.2.2.2.2.2.2.2.2.2.1
theorem iv_e16 {A B : Rows} {nP nR nX nC nS nL nT : Nat} {E : Nat → Nat} (h : Inv A B nP nR nX nC nS nL nT E) : B 16 = A 16 := h.2.2.2.2.2.2.2.2.2.2.2.2.2.2.2.2.2.2.2.2.2.2.2.2.2.2.2.2.2.2.2.2.2.2.1
theorem iv_e17 {A B : Rows} {nP nR nX nC nS nL nT : Nat} {E : Nat → Nat} (h : Inv A B nP nR nX nC nS nL nT E) : B 17 = A 17 := h.2.2.2.2.2.2.2.2.2.2.2.2.2.2.2.2.2.2.2.2.2.2.2.2.2.2.2.2.2.2.2.2.2.2.2.1
theorem iv_e18 {A B : Rows} {nP nR nX nC nS nL nT : Nat} {E : Nat → Nat} (h : Inv A B nP nR nX nC nS nL nT E) : B 18 = A 18 := h.2.2.2.2.2.2.2.2.2.2.2.2.2.2.2.2.2.2.2.2.2.2.2.2.2.2.2.2.2.2.2.2.2.2.2.2.1
theorem iv_e19 {A B : Rows} {nP nR nX nC nS nL nT : Nat} {E : Nat → Nat} (h : Inv A B nP nR nX nC nS nL nT E) : B 19 = A 19 := h.2.2.2.2.2.2.2.2.2.2.2.2.2.2.2.2.2.2.2.2.2.2.2.2.2.2.2.2.2.2.2.2.2.2.2.2.2.1
theorem iv_e20 {A B : Rows} {nP nR nX nC nS nL nT : Nat} {E : Nat → Nat} (h : Inv A B nP nR nX nC nS nL nT E) : B 20 = A 20 := h.2.2.2.2.2.2.2.2.2.2.2.2.2.2.2.2.2.2.2.2.2.2.2.2.2.2.2.2.2.2.2.2.2.2.2.2.2.2.1
theorem iv_e23 {A B : Rows} {nP nR nX nC nS nL nT : Nat} {E : Nat → Nat} (h : Inv A B nP nR nX nC nS nL nT E) : B 23 = A 23 := h.2.2.2.2.2.2.2.2.2.2.2.2.2.2.2.2.2.2.2.2.2.2.2.2.2.2.2.2.2.2.2.2.2.2.2.2.2.2.2.1
theorem iv_e24 {A B : Rows} {nP nR nX nC nS nL nT : Nat} {E : Nat → Nat} (h : Inv A B nP nR nX nC nS nL nT E) : B 24 = A 24 := h.2.2.2.2.2.2.2.2.2.2.2.2.2.2.2.2.2.2.2.2.2.2.2.2.2.2.2.2.2.2.2.2.2.2.2.2.2.2.2.2.1
theorem iv_v15 {A B : Rows} {nP nR nX nC nS nL nT : Nat} {E : Nat → Nat} (h : Inv A B nP nR nX nC nS nL nT E) : ∀ j, vp_in (A 15 j) 61 := h.2.2.2.2.2.2.2.2.2.2.2.2.2.2.2.2.2.2.2.2.2.2.2.2.2.2.2.2.2.2.2.2.2.2.2.2.2.2.2.2.2.1
theorem iv_v16 {A B : Rows} {nP nR nX nC nS nL nT : Nat} {E : Nat → Nat} (h : Inv A B nP nR nX nC nS nL nT E) : ∀ j, vp_in (A 16 j) 40 := h.2.2.2.2.2.2.2.2.2.2.2.2.2.2.2.2.2.2.2.2.2.2.2.2.2.2.2.2.2.2.2.2.2.2.2.2.2.2.2.2.2.2.1
theorem iv_v22 {A B : Rows} {nP nR nX nC nS nL nT : Nat} {E : Nat → Nat} (h : Inv A B nP nR nX nC nS nL nT E) : ∀ j, vp_in (A 22 j) 151 := h.2.2.2.2.2.2.2.2.2.2.2.2.2.2.2.2.2.2.2.2.2.2.2.2.2.2.2.2.2.2.2.2.2.2.2.2.2.2.2.2.2.2.2.1
theorem iv_v25 {A B : Rows} {nP nR nX nC nS nL nT : Nat} {E : Nat → Nat} (h : Inv A B nP nR nX nC nS nL nT E) : ∀ j, vp_in (A 25 j) 151 := h.2.2.2.2.2.2.2.2.2.2.2.2.2.2.2.2.2.2.2.2.2.2.2.2.2.2.2.2.2.2.2.2.2.2.2.2.2.2.2.2.2.2.2.2.1
theorem iv_v3 {A B : Rows} {nP nR nX nC nS nL nT : Nat} {E : Nat → Nat} (h : Inv A B nP nR nX nC nS nL nT E) : ∀ j, vp_in (A 3 j) 12 := h.2.2.2.2.2.2.2.2.2.2.2.2.2.2.2.2.2.2.2.2.2.2.2.2.2.2.2.2.2.2.2.2.2.2.2.2.2.2.2.2.2.2.2.2.2.1
theorem iv_v5 {A B : Rows} {nP nR nX nC nS nL nT : Nat} {E : Nat → Nat} (h : Inv A B nP nR nX nC nS nL nT E) : ∀ j, vp_in (A 5 j) 31 := h.2.2.2.2.2.2.2.2.2.2.2.2.2.2.2.2.2.2.2.2.2.2.2.2.2.2.2.2.2.2.2.2.2.2.2.2.2.2.2.2.2.2.2.2.2.2.1
theorem iv_v6 {A B : Rows} {nP nR nX nC nS nL nT : Nat} {E : Nat → Nat} (h : Inv A B nP nR nX nC nS nL nT E) : ∀ j, vp_in (A 6 j) 100 := h.2.2.2.2.2.2.2.2.2.2.2.2.2.2.2.2.2.2.2.2.2.2.2.2.2.2.2.2.2.2.2.2.2.2.2.2.2.2.2.2.2.2.2.2.2.2.2.1
theorem iv_v19 {A B : Rows} {nP nR nX nC nS nL nT : Nat} {E : Nat → Nat} (h : Inv A B nP nR nX nC nS nL nT E) : ∀ j, vp_in (A 19 j) 100000 := h.2.2.2.2.2.2.2.2.2.2.2.2.2.2.2.2.2.2.2.2.2.2.2.2.2.2.2.2.2.2.2.2.2.2.2.2.2.2.2.2.2.2.2.2.2.2.2.2.1
theorem iv_b1 {A B : Rows} {nP nR nX nC nS nL nT : Nat} {E : Nat → Nat} (h : Inv A B nP nR nX nC nS nL nT E) : ∀ j, isB (A 1 j) := h.2.2.2.2.2.2.2.2.2.2.2.2.2.2.2.2.2.2.2.2.2.2.2.2.2.2.2.2.2.2.2.2.2.2.2.2.2.2.2.2.2.2.2.2.2.2.2.2.2.1
theorem iv_d1 {A B : Rows} {nP nR nX nC nS nL nT : Nat} {E : Nat → Nat} (h : Inv A B nP nR nX nC nS nL nT E) : ∀ j, isB (B 1 j) := h.2.2.2.2.2.2.2.2.2.2.2.2.2.2.2.2.2.2.2.2.2.2.2.2.2.2.2.2.2.2.2.2.2.2.2.2.2.2.2.2.2.2.2.2.2.2.2.2.2.2.1
theorem iv_b13 {A B : Rows} {nP nR nX nC nS nL nT : Nat} {E : Nat → Nat} (h : Inv A B nP nR nX nC nS nL nT E) : ∀ j, isB (A 13 j) := h.2.2.2.2.2.2.2.2.2.2.2.2.2.2.2.2.2.2.2.2.2.2.2.2.2.2.2.2.2.2.2.2.2.2.2.2.2.2.2.2.2.2.2.2.2.2.2.2.2.2.2.1
theorem iv_b14 {A B : Rows} {nP nR nX nC nS nL nT : Nat} {E : Nat → Nat} (h : Inv A B nP nR nX nC nS nL nT E) : ∀ j, isB (A 14 j) := h.2.2.2.2.2.2.2.2.2.2.2.2.2.2.2.2.2.2.2.2.2.2.2.2.2.2.2.2.2.2.2.2.2.2.2.2.2.2.2.2.2.2.2.2.2.2.2.2.2.2.2.2.1
theorem iv_op {A B : Rows} {nP nR nX nC nS nL nT : Nat} {E : Nat → Nat} (h : Inv A B nP nR nX nC nS nL nT E) : ∀ j, j < nP → B 1 j = b2 (decide (A 1 j = 0)) := h.2.2.2.2.2.2.2.2.2.2.2.2.2.2.2.2.2.2.2.2.2.2.2.2.2.2.2.2.2.2.2.2.2.2.2.2.2.2.2.2.2.2.2.2.2.2.2.2.2.2.2.2.2.1
theorem iv_w8 {A B : Rows} {nP nR nX nC nS nL nT : Nat} {E : Nat → Nat} (h : Inv A B nP nR nX nC nS nL nT E) : ∀ j, nP ≤ j → B 1 j = 0 := h.2.2.2.2.2.2.2.2.2.2.2.2.2.2.2.2.2.2.2.2.2.2.2.2.2.2.2.2.2.2.2.2.2.2.2.2.2.2.2.2.2.2.2.2.2.2.2.2.2.2.2.2.2.2.1
theorem iv_sd {A B : Rows} {nP nR nX nC nS nL nT : Nat} {E : Nat → Nat} (h : Inv A B nP nR nX nC nS nL nT E) : ∀ c, 1 ≤ c → c ≤ nC → B 11 c = if A 12 c = 0 then A 11 c else -1 := h.2.2.2.2.2.2.2.2.2.2.2.2.2.2.2.2.2.2.2.2.2.2.2.2.2.2.2.2.2.2.2.2.2.2.2.2.2.2.2.2.2.2.2.2.2.2.2.2.2.2.2.2.2.2.2.1
theorem iv_w1 {A B : Rows} {nP nR nX nC nS nL nT : Nat} {E : Nat → Nat} (h : Inv A B nP nR nX nC nS nL nT E) : ∀ s, 1 ≤ s → s ≤ nS → A 17 s = 0 → A 11 (A 15 s).toNatClampNeg = A 2 (A 16 s).toNatClampNeg := h.2.2.2.2.2.2.2.2.2.2.2.2.2.2.2.2.2.2.2.2.2.2.2.2.2.2.2.2.2.2.2.2.2.2.2.2.2.2.2.2.2.2.2.2.2.2.2.2.2.2.2.2.2.2.2.2.1
theorem iv_w2 {A B : Rows} {nP nR nX nC nS nL nT : Nat} {E : Nat → Nat} (h : Inv A B nP nR nX nC nS nL nT E) : ∀ s, 1 ≤ s → s ≤ nS → (A 17 s = 0 ∨ A 17 s = 1 ∨ A 17 s = 3) → A 12 (A 15 s).toNatClampNeg = nI s := h.2.2.2.2.2.2.2.2.2.2.2.2.2.2.2.2.2.2.2.2.2.2.2.2.2.2.2.2.2.2.2.2.2.2.2.2.2.2.2.2.2.2.2.2.2.2.2.2.2.2.2.2.2.2.2.2.2.1
theorem iv_w3 {A B : Rows} {nP nR nX nC nS nL nT : Nat} {E : Nat → Nat} (h : Inv A B nP nR nX nC nS nL nT E) : ∀ s, 1 ≤ s → s ≤ nS → 1 ≤ (A 15 s).toNatClampNeg ∧ (A 15 s).toNatClampNeg ≤ nC := h.2.2.2.2.2.2.2.2.2.2.2.2.2.2.2.2.2.2.2.2.2.2.2.2.2.2.2.2.2.2.2.2.2.2.2.2.2.2.2.2.2.2.2.2.2.2.2.2.2.2.2.2.2.2.2.2.2.2.1
theorem iv_w4 {A B : Rows} {nP nR nX nC nS nL nT : Nat} {E : Nat → Nat} (h : Inv A B nP nR nX nC nS nL nT E) : ∀ s, nS < s → A 17 s = 0 := h.2.2.2.2.2.2.2.2.2.2.2.2.2.2.2.2.2.2.2.2.2.2.2.2.2.2.2.2.2.2.2.2.2.2.2.2.2.2.2.2.2.2.2.2.2.2.2.2.2.2.2.2.2.2.2.2.2.2.2.1
theorem iv_w5 {A B : Rows} {nP nR nX nC nS nL nT : Nat} {E : Nat → Nat} (h : Inv A B nP nR nX nC nS nL nT E) : ∀ s, 1 ≤ s → s ≤ nS → (A 16 s).toNatClampNeg < nR := h.2.2.2.2.2.2.2.2.2.2.2.2.2.2.2.2.2.2.2.2.2.2.2.2.2.2.2.2.2.2.2.2.2.2.2.2.2.2.2.2.2.2.2.2.2.2.2.2.2.2.2.2.2.2.2.2.2.2.2.2.1
theorem iv_w6 {A B : Rows} {nP nR nX nC nS nL nT : Nat} {E : Nat → Nat} (h : Inv A B nP nR nX nC nS nL nT E) : ∀ r, r < nR → (A 3 r).toNatClampNeg < nP := h.2.2.2.2.2.2.2.2.2.2.2.2.2.2.2.2.2.2.2.2.2.2.2.2.2.2.2.2.2.2.2.2.2.2.2.2.2.2.2.2.2.2.2.2.2.2.2.2.2.2.2.2.2.2.2.2.2.2.2.2.2.1
theorem iv_w7 {A B : Rows} {nP nR nX nC nS nL nT : Nat} {E : Nat → Nat} (h : Inv A B nP nR nX nC nS nL nT E) : ∀ c, nC < c → A 12 c = 0 := h.2.2.2.2.2.2.2.2.2.2.2.2.2.2.2.2.2.2.2.2.2.2.2.2.2.2.2.2.2.2.2.2.2.2.2.2.2.2.2.2.2.2.2.2.2.2.2.2.2.2.2.2.2.2.2.2.2.2.2.2.2.2.1
theorem iv_en {A B : Rows} {nP nR nX nC nS nL nT : Nat} {E : Nat → Nat} (h : Inv A B nP nR nX nC nS nL nT E) : enC A nL E := h.2.2.2.2.2.2.2.2.2.2.2.2.2.2.2.2.2.2.2.2.2.2.2.2.2.2.2.2.2.2.2.2.2.2.2.2.2.2.2.2.2.2.2.2.2.2.2.2.2.2.2.2.2.2.2.2.2.2.2.2.2.2.2.1
theorem iv_E0 {A B : Rows} {nP nR nX nC nS nL nT : Nat} {E : Nat → Nat} (h : Inv A B nP nR nX nC nS nL nT E) : E 0 = 0 := h.2.2.2.2.2.2.2.2.2.2.2.2.2.2.2.2.2.2.2.2.2.2.2.2.2.2.2.2.2.2.2.2.2.2.2.2.2.2.2.2.2.2.2.2.2.2.2.2.2.2.2.2.2.2.2.2.2.2.2.2.2.2.2.2.1
theorem iv_l1 {A B : Rows} {nP nR nX nC nS nL nT : Nat} {E : Nat → Nat} (h : Inv A B nP nR nX nC nS nL nT E) : ∀ k i, k < nL → E k + i < E (k + 1) → ∃ s, 1 ≤ s ∧ s ≤ 150 ∧ A 22 (E k + i) = nI s ∧ B 21 s = nI (k + 1) ∧ B 22 s = nI i := h.2.2.2.2.2.2.2.2.2.2.2.2.2.2.2.2.2.2.2.2.2.2.2.2.2.2.2.2.2.2.2.2.2.2.2.2.2.2.2.2.2.2.2.2.2.2.2.2.2.2.2.2.2.2.2.2.2.2.2.2.2.2.2.2.2.1
theorem iv_l2 {A B : Rows} {nP nR nX nC nS nL nT : Nat} {E : Nat → Nat} (h : Inv A B nP nR nX nC nS nL nT E) : ∀ s, B 21 s = 0 ∨ ∃ k i, k < nL ∧ E k + i < E (k + 1) ∧ B 21 s = nI (k + 1) ∧ B 22 s = nI i ∧ A 22 (E k + i) = nI s ∧ ¬ A 17 s = 0 := h.2.2.2.2.2.2.2.2.2.2.2.2.2.2.2.2.2.2.2.2.2.2.2.2.2.2.2.2.2.2.2.2.2.2.2.2.2.2.2.2.2.2.2.2.2.2.2.2.2.2.2.2.2.2.2.2.2.2.2.2.2.2.2.2.2.2.1
theorem iv_l3 {A B : Rows} {nP nR nX nC nS nL nT : Nat} {E : Nat → Nat} (h : Inv A B nP nR nX nC nS nL nT E) : ∀ s, nS < s → B 21 s = 0 := h.2.2.2.2.2.2.2.2.2.2.2.2.2.2.2.2.2.2.2.2.2.2.2.2.2.2.2.2.2.2.2.2.2.2.2.2.2.2.2.2.2.2.2.2.2.2.2.2.2.2.2.2.2.2.2.2.2.2.2.2.2.2.2.2.2.2.2.1
theorem iv_l4 {A B : Rows} {nP nR nX nC nS nL nT : Nat} {E : Nat → Nat} (h : Inv A B nP nR nX nC nS nL nT E) : ∀ k, k < nL → E (k + 1) - E k ≤ 99 := h.2.2.2.2.2.2.2.2.2.2.2.2.2.2.2.2.2.2.2.2.2.2.2.2.2.2.2.2.2.2.2.2.2.2.2.2.2.2.2.2.2.2.2.2.2.2.2.2.2.2.2.2.2.2.2.2.2.2.2.2.2.2.2.2.2.2.2.2
def Iv (A B : Rows) : Prop := ∃ (nP nR nX nC nS nL nT : Nat) (E : Nat → Nat), Inv A B nP nR nX nC nS nL nT E
theorem iv_rgC {A B : Rows} {nP nR nX nC nS nL nT : Nat} {E : Nat → Nat} (h : Inv A B nP nR nX nC nS nL nT E) : rgC A := ⟨iv_v15 h, iv_v16 h, iv_v22 h, iv_v25 h, iv_v3 h, iv_b1 h, iv_b13 h, iv_b14 h⟩
theorem iv_rgM {A B : Rows} {nP nR nX nC nS nL nT : Nat} {E : Nat → Nat} (h : Inv A B nP nR nX nC nS nL nT E) : rgM B := ⟨by rw [iv_e15 h]; exact iv_v15 h, by rw [iv_e16 h]; exact iv_v16 h, by rw [iv_e3 h]; exact iv_v3 h, iv_d1 h, by rw [iv_e13 h]; exact iv_b13 h, by rw [iv_e14 h]; exact iv_b14 h⟩
theorem iv_T0 {A B : Rows} {nP nR nX nC nS nL nT : Nat} {E : Nat → Nat} (h : Inv A B nP nR nX nC nS nL nT E) : Inv A (T0 B) nP nR nX nC nS nL nT E := h
theorem isB_b2 (b : Bool) : isB (b2 b) := ⟨b, rfl⟩
theorem isB_1 : isB 1 := ⟨true, rfl⟩
theorem isB_up {f : Nat → Int32} {k : Nat} {x : Int32} (h : ∀ j, isB (f j)) (hx : isB x) : ∀ j, isB (upd f k x j) := fun j => by
  unfold upd
  split
  · exact hx
  · exact h j
theorem isB_c {x : Int32} (h : isB x) : x = b2 (decide (b2 (decide (x = 0)) = 0)) := by
  obtain ⟨b, rfl⟩ := h
  cases b <;> rfl
theorem ruC_c {A B : Rows} (h4 : B 4 = A 4) (h8 : B 8 = A 8) (h9 : B 9 = A 9) (n : Nat) (r d : Int32) : ruC B n r d = ruC A n r d := by unfold ruC; rw [h4, h8, h9]
theorem joC_c {A B : Rows} (h2 : B 2 = A 2) (h3 : B 3 = A 3) (r a b : Int32) : joC B r a b = joC A r a b := by unfold joC; rw [h2, h3]
theorem x_fst_c {A B : Rows} {n : Nat} (h : ∀ r d, ruC B n r d = ruC A n r d) (r : Int32) : ∀ k t, x_fst B n r k t = x_fst A n r k t
  | 0, _ => rfl
  | k + 1, t => by
    unfold x_fst
    rw [h, x_fst_c h r k]
theorem x_qk_c {A B : Rows} {n : Nat} (hj : ∀ r a b, joC B r a b = joC A r a b) (hf : ∀ r k t, x_fst B n r k t = x_fst A n r k t) (h5 : B 5 = A 5) (a b : Int32) (e : Nat) : ∀ k j best bd, x_qk B n a b e k j best bd = x_qk A n a b e k j best bd
  | 0, _, _, _ => rfl
  | k + 1, j, best, bd => by
    unfold x_qk
    simp only [hj, hf, h5, x_qk_c hj hf h5 a b e k]
theorem bfI_c {A B : Rows} (h13 : B 13 = A 13) (h15 : B 15 = A 15) (h19 : B 19 = A 19) (x y : Int32) : bfI B x y = bfI A x y := by unfold bfI; rw [h13, h15, h19]
theorem x_st_c {A B : Rows} (h16 : B 16 = A 16) (h17 : B 17 = A 17) (h18 : B 18 = A 18) (h20 : B 20 = A 20) (hj : ∀ r a b, joC B r a b = joC A r a b) (a b : Int32) : ∀ k j n s m, x_st B a b k j n s m = x_st A a b k j n s m
  | 0, _, _, _, _ => rfl
  | k + 1, j, n, s, m => by
    unfold x_st
    simp only [hj, h16, h17, h18, h20, x_st_c h16 h17 h18 h20 hj a b k]
theorem x_fst_in {A : Rows} {n : Nat} {r : Int32} : ∀ k t, x_fst A n r k t = -1 ∨ ∃ j, t ≤ j ∧ j < t + k ∧ x_fst A n r k t = nI j
  | 0, _ => Or.inl rfl
  | k + 1, t => by
    unfold x_fst
    split
    · exact Or.inr ⟨t, Nat.le_refl _, by omega, rfl⟩
    · rcases x_fst_in (A := A) (n := n) (r := r) k (t + 1) with h | ⟨j, h1, h2, h3⟩
      · exact Or.inl h
      · exact Or.inr ⟨j, by omega, by omega, h3⟩
/-- the best route joins, and it runs -/
theorem x_qk_j {A : Rows} {n : Nat} {a b : Int32} {e : Nat} : ∀ (k j : Nat) (best bd : Int32), (best = -1 ∨ ∃ i, i < j ∧ best = nI i ∧ joC A (nI i) a b = true ∧ ¬ x_fst A n (nI i) (100000 - e) e = -1) → x_qk A n a b e k j best bd = -1 ∨ ∃ i, i < j + k ∧ x_qk A n a b e k j best bd = nI i ∧ joC A (nI i) a b = true ∧ ¬ x_fst A n (nI i) (100000 - e) e = -1
  | 0, j, best, bd, h => h
  | k + 1, j, best, bd, h => by
    have h1 : best = -1 ∨ ∃ i, i < j + 1 ∧ best = nI i ∧ joC A (nI i) a b = true ∧ ¬ x_fst A n (nI i) (100000 - e) e = -1 := h.imp id (fun ⟨i, p, q⟩ => ⟨i, by omega, q⟩)
    rw [show j + (k + 1) = j + 1 + k by omega]
    unfold x_qk
    by_cases c1 : joC A (nI j) a b = true
    · rw [if_pos c1]
      by_cases c2 : (!decide (x_fst A n (nI j) (100000 - e) e = -1) && (decide (best = -1) || decide (x_fst A n (nI j) (100000 - e) e + A 5 j < bd))) = true
      · rw [if_pos c2]
        refine x_qk_j k (j + 1) _ _ (Or.inr ⟨j, by omega, rfl, c1, ?_⟩)
        simp only [Bool.and_eq_true, Bool.not_eq_true', decide_eq_false_iff_not] at c2
        exact c2.1
      · rw [if_neg c2]
        exact x_qk_j k (j + 1) _ _ h1
    · rw [if_neg c1]
      exact x_qk_j k (j + 1) _ _ h1
theorem up_e {f g : Nat → Int32} (h : g = f) (k : Nat) (x : Int32) : upd g k x = upd f k x := by rw [h]
theorem up_s {f : Nat → Int32} {k : Nat} {x : Int32} : upd f k x k = x := pk_us
theorem up_n {f : Nat → Int32} {k j : Nat} {x : Int32} (h : j ≠ k) : upd f k x j = f j := pk_un h
theorem vp_0 {n : Nat} (h : 0 < n) (hn : n < 2 ^ 31) : vp_in 0 n := vp_in_nI (n := 0) h hn
