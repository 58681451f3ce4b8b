theorem x_ldM_0 {B : Rows} {x i : Int32} : ∀ k j, (∀ t, j ≤ t → t < j + k → ¬ (B 21 t = x ∧ B 22 t = i)) → x_ldM B x i k j = 0
  | 0, _, _ => rfl
  | k + 1, j, h => by
    unfold x_ldM
    rw [if_neg (h j (Nat.le_refl _) (by omega))]
    exact x_ldM_0 k (j + 1) (fun t h1 h2 => h t (by omega) (by omega))
theorem x_ldM_1 {B : Rows} {x i : Int32} {u : Nat} (hu : B 21 u = x ∧ B 22 u = i) : ∀ k j, j ≤ u → u < j + k → (∀ t, j ≤ t → t < u → ¬ (B 21 t = x ∧ B 22 t = i)) → x_ldM B x i k j = nI u
  | 0, _, h1, h2, _ => absurd h2 (by omega)
  | k + 1, j, h1, h2, h => by
    unfold x_ldM
    by_cases e : j = u
    · rw [e, if_pos hu]
    · rw [if_neg (h j (Nat.le_refl _) (by omega))]
      exact x_ldM_1 hu k (j + 1) (by omega) (by omega) (fun t h3 h4 => h t (by omega) h4)
/-- a slip with a load's mark stands there in the class's row -/
theorem iv_mark {A B : Rows} {nP nR nX nC nS nL nT : Nat} {E : Nat → Nat} (h : Inv A B nP nR nX nC nS nL nT E) {k i t : Nat} (hk : k < 2 ^ 30) (hi : i < 2 ^ 30) (h1 : B 21 t = nI (k + 1)) (h2 : B 22 t = nI i) : k < nL ∧ E k + i < E (k + 1) ∧ A 22 (E k + i) = nI t ∧ ¬ A 17 t = 0 := by
  have hl := iv_lL h
  rcases iv_l2 h t with z | ⟨k2, i2, a1, a2, a3, a4, a5, a6⟩
  · rw [h1] at z
    exact absurd z (nI_ne0 (by omega) (by omega))
  · have b := enC_le (iv_en h) (k2 + 1) (by omega)
    rw [h1] at a3
    rw [h2] at a4
    have e1 := nI_eqD a3 (by omega) (by omega)
    have e2 := nI_eqD a4 (by omega) (by omega)
    have e3 : k2 = k := by omega
    subst e3 e2
    exact ⟨a1, a2, a5, a6⟩
theorem iv_mk1 {A B : Rows} {nP nR nX nC nS nL nT : Nat} {E : Nat → Nat} (h : Inv A B nP nR nX nC nS nL nT E) {t : Nat} {x i : Int32} (hx : ¬ x ≤ 0) (h1 : B 21 t = x) (h2 : B 22 t = i) : ∃ k j, k < nL ∧ E k + j < E (k + 1) ∧ x = nI (k + 1) ∧ i = nI j ∧ A 22 (E k + j) = nI t := by
  rcases iv_l2 h t with z | ⟨k2, i2, a1, a2, a3, a4, a5, a6⟩
  · rw [h1] at z
    rw [z] at hx
    exact absurd (by decide) hx
  · exact ⟨k2, i2, a1, a2, h1 ▸ a3, h2 ▸ a4, a5⟩
theorem iv_le {A B : Rows} {nP nR nX nC nS nL nT : Nat} {E : Nat → Nat} (h : Inv A B nP nR nX nC nS nL nT E) {t : Nat} (h1 : ¬ B 21 t = 0) : t ≤ nS := by
  rcases Nat.lt_or_ge nS t with q | q
  · exact absurd (iv_l3 h t q) h1
  · exact q
theorem op_loaded {A B : Rows} {nP nR nX nC nS nL nT : Nat} {E : Nat → Nat} (h : Inv A B nP nR nX nC nS nL nT E) (x i : Int32) : o_ld A nL x i = (if x ≤ 0 then 0 else x_ldM B x i nS 1) := by
  have hl := iv_lL h
  have hS := iv_lS h
  unfold o_ld
  by_cases c0 : x ≤ 0
  · rw [if_pos c0, if_neg]
    have : x < 1 := le0_lt1.mp c0
    simp [h1, this]
  · rw [if_neg c0]
    by_cases c : (h1 (nI nL) x && !decide (i < 0) && decide (i < A 21 x.toNatClampNeg - A 21 (x.toNatClampNeg - 1))) = true
    · rw [if_pos c]
      simp only [Bool.and_eq_true, Bool.not_eq_true', decide_eq_false_iff_not, decide_eq_true_eq] at c
      obtain ⟨⟨q1, q2⟩, q3⟩ := c
      obtain ⟨k, k1, rfl⟩ := h1_of q1 (by omega)
      rw [nI_clamp (show k + 1 < 2 ^ 31 by omega), Nat.add_sub_cancel] at q3 ⊢
      have a1 := enC_le (iv_en h) (k + 1) (by omega)
      rw [(iv_en h).1 k (by omega), (iv_en h).1 (k + 1) (by omega), pk_sub ((iv_en h).2.1 k k1)] at q3
      obtain ⟨j, hj, rfl⟩ := nI_of q2
      have q4 := nI_ltD q3 hj (by omega)
      rw [(iv_en h).1 k (by omega), nI_add, nI_clamp (show E k + j < 2 ^ 31 by omega)]
      obtain ⟨s, s1, s2, s3, s4, s5⟩ := iv_l1 h k j k1 (by omega)
      rw [s3]
      refine (x_ldM_1 ⟨s4, s5⟩ nS 1 s1 ?_ (fun t t1 t2 z => ?_)).symm
      · have := iv_le h (t := s) (by rw [s4]; exact nI_ne0 (by omega) (by omega))
        omega
      · have := (iv_mark h (by omega) (by omega) z.1 z.2).2.2.1
        rw [s3] at this
        have := nI_eqD this (by omega) (by omega)
        omega
    · rw [if_neg c]
      refine (x_ldM_0 nS 1 (fun t t1 t2 z => c ?_)).symm
      obtain ⟨k, j, a1, a2, rfl, rfl, a5⟩ := iv_mk1 h c0 z.1 z.2
      have b1 := enC_le (iv_en h) (k + 1) (by omega)
      simp only [Bool.and_eq_true, Bool.not_eq_true', decide_eq_false_iff_not, decide_eq_true_eq]
      refine ⟨⟨?_, nI_pos (by omega)⟩, ?_⟩
      · simp only [h1, Bool.and_eq_true, Bool.not_eq_true', decide_eq_false_iff_not]
        exact ⟨nI_nlt (b := 1) (by omega) (by omega), nI_nlt (by omega) (by omega)⟩
      · rw [nI_clamp (show k + 1 < 2 ^ 31 by omega), Nat.add_sub_cancel, (iv_en h).1 k (by omega), (iv_en h).1 (k + 1) (by omega), pk_sub ((iv_en h).2.1 k a1)]
        exact nI_lt (by omega) (by omega)
theorem x_miJ_0 {B : Rows} {x i : Int32} {p : Nat} : ∀ k j b, (∀ t, j ≤ t → t < j + k → ¬ (B 21 t = x ∧ B 22 t = nI p ∧ uwC B (nI t) = true)) → x_miJ B x i p k j b = (none, b)
  | 0, _, _, _ => rfl
  | k + 1, j, b, h => by
    unfold x_miJ
    rw [if_neg]
    · exact x_miJ_0 k (j + 1) b (fun t h1 h2 => h t (by omega) (by omega))
    · intro z
      simp only [Bool.and_eq_true, decide_eq_true_eq] at z
      exact h j (Nat.le_refl _) (by omega) ⟨z.1.1, z.1.2, z.2⟩
theorem x_miJ_1 {B : Rows} {x i : Int32} {p u : Nat} (hu : B 21 u = x ∧ B 22 u = nI p ∧ uwC B (nI u) = true) (hx : ∀ t, B 21 t = x → B 22 t = nI p → t = u) : ∀ k j b, j ≤ u → u < j + k → x_miJ B x i p k j b = if b = i then (some (nI u), b) else (none, b + 1)
  | 0, _, _, h1, h2 => absurd h2 (by omega)
  | k + 1, j, b, h1, h2 => by
    unfold x_miJ
    by_cases e : j = u
    · rw [e, if_pos (by simp [hu.1, hu.2.1, hu.2.2])]
      by_cases c : b = i
      · rw [if_pos c, if_pos c]
      · rw [if_neg c, if_neg c]
        exact x_miJ_0 k (u + 1) (b + 1) (fun t h3 h4 z => by have := hx t z.1 z.2.1; omega)
    · rw [if_neg]
      · exact x_miJ_1 hu hx k (j + 1) b (by omega) (by omega)
      · intro z
        simp only [Bool.and_eq_true, decide_eq_true_eq] at z
        exact e (hx j z.1.1 z.1.2)
theorem x_miM_0 {B : Rows} {n : Nat} {x i : Int32} : ∀ k p b, (∀ t p2, p ≤ p2 → p2 < p + k → ¬ (B 21 t = x ∧ B 22 t = nI p2)) → x_miM B n x i k p b = 0
  | 0, _, _, _ => rfl
  | k + 1, p, b, h => by
    unfold x_miM
    rw [x_miJ_0 n 1 b (fun t _ _ z => h t p (Nat.le_refl _) (by omega) ⟨z.1, z.2.1⟩)]
    exact x_miM_0 k (p + 1) b (fun t p2 h1 h2 => h t p2 (by omega) (by omega))
theorem iv_mis {A B : Rows} {nP nR nX nC nS nL nT : Nat} {E : Nat → Nat} (h : Inv A B nP nR nX nC nS nL nT E) {k : Nat} (hk : k < nL) (i : Int32) : ∀ m p b, p + m = E (k + 1) - E k → x_miM B nS (nI (k + 1)) i (99 - p) p b = x_mis A k i m p b
  | 0, p, b, hp => by
    have hl := iv_lL h
    unfold x_mis
    refine x_miM_0 _ p b (fun t p2 h1 h2 z => ?_)
    have := (iv_mark h (by omega) (by omega) z.1 z.2).2.1
    omega
  | m + 1, p, b, hp => by
    have hl := iv_lL h
    have hS := iv_lS h
    have h4 := iv_l4 h k hk
    have a1 := enC_le (iv_en h) (k + 1) (by omega)
    have a0 := (iv_en h).2.1 k hk
    obtain ⟨q, hq⟩ : ∃ q, 99 - p = q + 1 := ⟨98 - p, by omega⟩
    have hq2 : q = 99 - (p + 1) := by omega
    obtain ⟨s, s1, s2, s3, s4, s5⟩ := iv_l1 h k p hk (by omega)
    have s6 : s ≤ nS := iv_le h (t := s) (by rw [s4]; exact nI_ne0 (by omega) (by omega))
    have un : ∀ t, B 21 t = nI (k + 1) → B 22 t = nI p → t < 2 ^ 31 → t = s := fun t t1 t2 t3 => by
      have := (iv_mark h (by omega) (by omega) t1 t2).2.2.1
      rw [s3] at this
      exact (nI_eqD this (by omega) t3).symm
    have un2 : ∀ t, B 21 t = nI (k + 1) → B 22 t = nI p → t = s := fun t t1 t2 => un t t1 t2 (by
      have := iv_le h (t := t) (by rw [t1]; exact nI_ne0 (by omega) (by omega))
      omega)
    rw [hq]
    unfold x_miM x_mis
    rw [(iv_en h).1 k (by omega), nI_add, nI_clamp (show E k + p < 2 ^ 31 by omega), s3]
    have ih := iv_mis h hk i m (p + 1)
    have eu : uwC B (nI s) = uwC A (nI s) := by unfold uwC; rw [iv_e17 h]
    by_cases c : uwC A (nI s) = true
    · rw [if_pos c, x_miJ_1 (u := s) ⟨s4, s5, eu.trans c⟩ un2 nS 1 b s1 (by omega)]
      by_cases c2 : b = i
      · rw [if_pos c2, if_pos c2]
      · rw [if_neg c2, if_neg c2, hq2]
        exact ih (b + 1) (by omega)
    · rw [if_neg c, x_miJ_0 nS 1 b (fun t _ _ z => by
        have := un2 t z.1 z.2.1
        rw [this, eu] at z
        exact c z.2.2), hq2]
      exact ih b (by omega)
theorem op_missing {A B : Rows} {nP nR nX nC nS nL nT : Nat} {E : Nat → Nat} (h : Inv A B nP nR nX nC nS nL nT E) (x i : Int32) : o_mis A nL E x i = (if x ≤ 0 ∨ i < 0 then 0 else x_miM B nS x i 99 0 0) := by
  have hl := iv_lL h
  unfold o_mis
  by_cases c0 : x ≤ 0 ∨ i < 0
  · rw [if_pos c0, if_neg]
    rcases c0 with c0 | c0
    · have : x < 1 := le0_lt1.mp c0
      simp [h1, this]
    · simp [c0]
  · rw [if_neg c0]
    have c1 : ¬ x ≤ 0 := fun z => c0 (Or.inl z)
    have c2 : ¬ i < 0 := fun z => c0 (Or.inr z)
    by_cases c : h1 (nI nL) x = true
    · rw [if_pos (by simp [c, c2])]
      obtain ⟨k, k1, rfl⟩ := h1_of c (by omega)
      rw [nI_clamp (show k + 1 < 2 ^ 31 by omega), Nat.add_sub_cancel]
      exact (iv_mis h k1 i _ 0 0 (by omega)).symm
    · rw [if_neg (by simp [c])]
      refine (x_miM_0 99 0 0 (fun t p2 _ _ z => c ?_)).symm
      obtain ⟨k, j, a1, a2, rfl, _, a5⟩ := iv_mk1 h c1 z.1 z.2
      simp only [h1, Bool.and_eq_true, Bool.not_eq_true', decide_eq_false_iff_not]
      exact ⟨nI_nlt (b := 1) (by omega) (by omega), nI_nlt (by omega) (by omega)⟩
