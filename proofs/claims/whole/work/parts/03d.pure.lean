theorem h1_of {n : Nat} {x : Int32} (h : h1 (nI n) x = true) (hn : n < 2 ^ 31) : ∃ k, k < n ∧ x = nI (k + 1) := by
  simp only [h1, Bool.and_eq_true, Bool.not_eq_true', decide_eq_false_iff_not] at h
  obtain ⟨j, hj, rfl⟩ := nI_of (x := x) (fun h0 => h.1 (by
    rw [Int32.lt_iff_toInt_lt] at h0 ⊢
    have e0 : (0 : Int32).toInt = 0 := rfl
    have e1 : (1 : Int32).toInt = 1 := rfl
    omega))
  have h3 := nI_nltD h.2 hn hj
  have h4 : ¬ j < 1 := fun q => h.1 (nI_lt (b := 1) q (by omega))
  exact ⟨j - 1, by omega, by rw [show j - 1 + 1 = j by omega]⟩
theorem hN_of {n : Nat} {x : Int32} (h : hN (nI n) x = true) (hn : n < 2 ^ 31) : ∃ k, k < n ∧ x = nI k := by
  simp only [hN, Bool.and_eq_true, Bool.not_eq_true', decide_eq_false_iff_not] at h
  obtain ⟨j, hj, rfl⟩ := nI_of (x := x) h.1
  exact ⟨j, nI_nleD h.2 hn hj, rfl⟩
theorem dC_of {x : Int32} (h : dC x = true) : ∃ t, t < 100000 ∧ x = nI t := by
  simp only [dC, Bool.and_eq_true, Bool.not_eq_true', decide_eq_false_iff_not] at h
  obtain ⟨j, hj, rfl⟩ := nI_of (x := x) h.1
  have := nI_nltD (a := 99999) (b := j) h.2 (by omega) hj
  exact ⟨j, by omega, rfl⟩
def isB (x : Int32) : Prop := ∃ b : Bool, x = b2 b
theorem isB_nar {x : Int32} (h : isB x) : narrow .boolean (.int x) = .int x := by obtain ⟨b, rfl⟩ := h; exact b2_nar b
/-- what stands in the class's rows lies in its bounds -/
def rgC (A : Rows) : Prop := (∀ j, vp_in (A 15 j) 61) ∧ (∀ j, vp_in (A 16 j) 40) ∧ (∀ j, vp_in (A 22 j) 151) ∧ (∀ j, vp_in (A 25 j) 151) ∧ (∀ j, vp_in (A 3 j) 12) ∧ (∀ j, isB (A 1 j)) ∧ (∀ j, isB (A 13 j)) ∧ (∀ j, isB (A 14 j))
/-- the order of a bin, as an int -/
def bfI (A : Rows) (x y : Int32) : Int32 :=
  if A 13 (A 15 x.toNatClampNeg).toNatClampNeg = A 13 (A 15 y.toNatClampNeg).toNatClampNeg then
    if A 19 x.toNatClampNeg = A 19 y.toNatClampNeg then b2 (decide (x < y)) else b2 (decide (A 19 x.toNatClampNeg < A 19 y.toNatClampNeg))
  else A 13 (A 15 x.toNatClampNeg).toNatClampNeg
def duC (A : Rows) (x : Int32) : Int32 := A 19 x.toNatClampNeg + A 5 (A 16 x.toNatClampNeg).toNatClampNeg
