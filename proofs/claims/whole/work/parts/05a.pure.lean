theorem le0_lt1 {x : Int32} : x ≤ 0 ↔ x < 1 := by
  rw [Int32.le_iff_toInt_le, Int32.lt_iff_toInt_lt]
  have e0 : (0 : Int32).toInt = 0 := rfl
  have e1 : (1 : Int32).toInt = 1 := rfl
  omega
theorem d_m {x : Int32} : 100000 ≤ x ↔ 99999 < x := by
  rw [Int32.le_iff_toInt_le, Int32.lt_iff_toInt_lt]
  have e0 : (100000 : Int32).toInt = 100000 := rfl
  have e1 : (99999 : Int32).toInt = 99999 := rfl
  omega
theorem h1_k {n : Nat} {x : Int32} (h : h1 (nI n) x = true) (hn : n < 2 ^ 31) : ∃ k, 1 ≤ k ∧ k ≤ n ∧ x = nI k := by
  obtain ⟨k, hk, e⟩ := h1_of h hn
  exact ⟨k + 1, by omega, by omega, e⟩
theorem vp_lt {x : Int32} {n : Nat} (h : vp_in x n) : x.toNatClampNeg < n := Nat.lt_of_not_le (fun q => h (Or.inr q))
theorem vp_nI {x : Int32} {n : Nat} (h : vp_in x n) : x = nI x.toNatClampNeg := by
  obtain ⟨j, hj, rfl⟩ := nI_of (fun q => h (Or.inl q))
  rw [nI_clamp hj]
/-- what stands in the model's rows lies in its bounds -/
def rgM (A : Rows) : Prop := (∀ j, vp_in (A 15 j) 61) ∧ (∀ j, vp_in (A 16 j) 40) ∧ (∀ j, vp_in (A 3 j) 12) ∧ (∀ j, isB (A 1 j)) ∧ (∀ j, isB (A 13 j)) ∧ (∀ j, isB (A 14 j))
theorem b2_1 {b : Bool} (h : b2 b = 1) : b = true := by cases b with | true => rfl | false => exact absurd h (by decide)
theorem b2_n1 {b : Bool} (h : ¬ b2 b = 1) : b = false := by cases b with | false => rfl | true => exact absurd rfl h
def T0 (A : Rows) : Rows := ua A 0 (uz (A 0) 7 0)
