/-- how many of 1 .. n have R -/
def cntN (R : Nat → Bool) : Nat → Nat
  | 0 => 0
  | n + 1 => cntN R n + (if R (n + 1) = true then 1 else 0)
theorem cntN_0 {R : Nat → Bool} : ∀ n, (∀ t, 1 ≤ t → t ≤ n → R t = false) → cntN R n = 0
  | 0, _ => rfl
  | n + 1, h => by
    unfold cntN
    rw [cntN_0 n (fun t h1 h2 => h t h1 (by omega)), h (n + 1) (by omega) (Nat.le_refl _)]
    rfl
theorem cntN_c {R R' : Nat → Bool} : ∀ n, (∀ t, 1 ≤ t → t ≤ n → R t = R' t) → cntN R n = cntN R' n
  | 0, _ => rfl
  | n + 1, h => by
    unfold cntN
    rw [cntN_c n (fun t h1 h2 => h t h1 (by omega)), h (n + 1) (by omega) (Nat.le_refl _)]
theorem cntN_1 {R : Nat → Bool} {u : Nat} (hu : 1 ≤ u) (hR : R u = true) : ∀ n, u ≤ n → cntN R n = cntN (fun t => R t && !decide (t = u)) n + 1
  | 0, h => absurd h (by omega)
  | n + 1, h => by
    unfold cntN
    by_cases e : u = n + 1
    · rw [← e, hR]
      have : cntN R n = cntN (fun t => R t && !decide (t = u)) n := cntN_c n (fun t _ h2 => by
        have : t ≠ u := by omega
        simp [this])
      rw [this]
      simp
    · rw [cntN_1 hu hR n (by omega)]
      have : n + 1 ≠ u := fun q => e q.symm
      simp only [this, decide_false, Bool.not_false, Bool.and_true]
      omega
theorem cntN_g : ∀ (k : Nat) (R : Nat → Bool) (N : Nat) (g : Nat → Nat), (∀ a, a < k → 1 ≤ g a ∧ g a ≤ N ∧ R (g a) = true) → (∀ a b, a < b → b < k → g a ≠ g b) → (∀ t, 1 ≤ t → t ≤ N → R t = true → ∃ a, a < k ∧ g a = t) → cntN R N = k
  | 0, R, N, g, h1, h2, h3 => cntN_0 N (fun t a b => by
    cases c : R t with
    | false => rfl
    | true => obtain ⟨x, hx, _⟩ := h3 t a b c; exact absurd hx (Nat.not_lt_zero _))
  | k + 1, R, N, g, h1, h2, h3 => by
    have hk := h1 k (Nat.lt_succ_self k)
    rw [cntN_1 hk.1 hk.2.2 N hk.2.1]
    rw [cntN_g k (fun t => R t && !decide (t = g k)) N g (fun a ha => ⟨(h1 a (by omega)).1, (h1 a (by omega)).2.1, by
      have := h2 a k ha (Nat.lt_succ_self k)
      simp [(h1 a (by omega)).2.2, this]⟩) (fun a b hab hb => h2 a b hab (by omega)) (fun t t1 t2 ht => by
      simp only [Bool.and_eq_true, Bool.not_eq_true', decide_eq_false_iff_not] at ht
      obtain ⟨a, ha, e⟩ := h3 t t1 t2 ht.1
      exact ⟨a, by
        rcases Nat.lt_or_ge a k with q | q
        · exact q
        · exact absurd (by rw [← e, show a = k by omega]) ht.2, e⟩)]
theorem cntN_le {R : Nat → Bool} : ∀ n, cntN R n ≤ n
  | 0 => Nat.le_refl _
  | n + 1 => by
    unfold cntN
    have := cntN_le (R := R) n
    split <;> omega
theorem x_cnt_N {A : Rows} {P : Nat → Bool} {s : Nat} : ∀ (k t c : Nat), x_cnt A P s k (t + 1) c + cntN (fun u => P u && ltB A u s) t = c + cntN (fun u => P u && ltB A u s) (t + k)
  | 0, t, c => rfl
  | k + 1, t, c => by
    unfold x_cnt
    have := x_cnt_N (A := A) (P := P) (s := s) k (t + 1) (if (P (t + 1) && !decide (bfI A (nI (t + 1)) (nI s) = 0)) = true then c + 1 else c)
    rw [show t + (k + 1) = t + 1 + k by omega]
    have e : cntN (fun u => P u && ltB A u s) (t + 1) = cntN (fun u => P u && ltB A u s) t + (if (P (t + 1) && ltB A (t + 1) s) = true then 1 else 0) := rfl
    unfold ltB at e this ⊢
    by_cases hc : (P (t + 1) && !decide (bfI A (nI (t + 1)) (nI s) = 0)) = true
    · rw [if_pos hc] at e this ⊢; omega
    · rw [if_neg hc] at e this ⊢; omega
/-- a listed slip has as many before it as stand ahead of it in the list -/
theorem rank_g {A : Rows} (h13 : ∀ j, isB (A 13 j)) {P : Nat → Bool} {nS n : Nat} (hS : nS ≤ 150) {g : Nat → Nat} (h : enm A P (nS + 1) n g) {k : Nat} (hk : k < n) : x_cnt A P (g k) nS 1 0 = k := by
  have h0 := x_cnt_N (A := A) (P := P) (s := g k) nS 0 0
  rw [show cntN (fun u => P u && ltB A u (g k)) 0 = 0 from rfl, Nat.add_zero, Nat.zero_add, Nat.zero_add, Nat.zero_add] at h0
  rw [h0]
  have b : ∀ a, a < n → 1 ≤ g a ∧ g a ≤ 150 := fun a ha => ⟨(h.1 a ha).1, by have := (h.1 a ha).2.1; omega⟩
  refine cntN_g k _ nS g (fun a ha => ⟨(h.1 a (by omega)).1, by have := (h.1 a (by omega)).2.1; omega, ?_⟩) (fun a b' hab hb e => ?_) (fun t t1 t2 ht => ?_)
  · rw [(h.1 a (by omega)).2.2, h.2.1 a k ha hk]; rfl
  · have := h.2.1 a b' hab (by omega)
    have b1 := b a (by omega)
    rw [← e, ltB_irr h13 (by omega)] at this
    exact absurd this (by decide)
  · simp only [Bool.and_eq_true] at ht
    obtain ⟨a, ha, rfl⟩ := h.2.2 t t1 (by omega) ht.1
    refine ⟨a, ?_, rfl⟩
    have b1 := b a ha
    have b2 := b k hk
    rcases Nat.lt_trichotomy a k with q | q | q
    · exact q
    · rw [q, ltB_irr h13 (by omega)] at ht
      exact absurd ht.2 (by decide)
    · have := ltB_as h13 (by omega) (by omega) (h.2.1 k a q ha)
      rw [this] at ht
      exact absurd ht.2 (by decide)
theorem x_binM_0 {A : Rows} {P : Nat → Bool} {n : Nat} {i : Int32} : ∀ (k s : Nat), (∀ t, s ≤ t → t < s + k → P t = true → ¬ nI (x_cnt A P t n 1 0) = i) → x_binM A P n i k s = 0
  | 0, _, _ => rfl
  | k + 1, s, h => by
    unfold x_binM
    by_cases c : P s = true
    · rw [if_pos c, if_neg (h s (Nat.le_refl _) (by omega) c)]
      exact x_binM_0 k (s + 1) (fun t h1 h2 => h t (by omega) (by omega))
    · rw [if_neg c]
      exact x_binM_0 k (s + 1) (fun t h1 h2 => h t (by omega) (by omega))
theorem x_binM_1 {A : Rows} {P : Nat → Bool} {n u : Nat} {i : Int32} (hu : P u = true) (hr : nI (x_cnt A P u n 1 0) = i) : ∀ (k s : Nat), s ≤ u → u < s + k → (∀ t, s ≤ t → t < u → P t = true → ¬ nI (x_cnt A P t n 1 0) = i) → x_binM A P n i k s = nI u
  | 0, s, h1, h2, _ => absurd h2 (by omega)
  | k + 1, s, h1, h2, h => by
    unfold x_binM
    by_cases e : s = u
    · subst e
      rw [if_pos hu, if_pos hr]
    · by_cases c : P s = true
      · rw [if_pos c, if_neg (h s (Nat.le_refl _) (by omega) c)]
        exact x_binM_1 hu hr k (s + 1) (by omega) (by omega) (fun t h3 h4 => h t (by omega) h4)
      · rw [if_neg c]
        exact x_binM_1 hu hr k (s + 1) (by omega) (by omega) (fun t h3 h4 => h t (by omega) h4)
/-- bin: the class and the model answer alike -/
theorem bin_eq {A : Rows} (h13 : ∀ j, isB (A 13 j)) (P : Nat → Bool) {nS : Nat} (hS : nS ≤ 150) (f : Nat → Int32) (i : Int32) :
    (if (!decide (i < 0) && !decide (nI (x_qu A P nS 1 0 f).1 ≤ i)) = true then (x_qu A P nS 1 0 f).2 i.toNatClampNeg else 0) = if i < 0 then 0 else x_binM A P nS i nS 1 := by
  obtain ⟨g, hg, hf⟩ := x_qu_all h13 P hS f
  have hn := x_qu_n (A := A) (P := P) nS 1 0 f
  generalize (x_qu A P nS 1 0 f).1 = n at hg hf hn ⊢
  by_cases c : i < 0
  · simp [c]
  · rw [if_neg c]
    obtain ⟨k, hk, rfl⟩ := nI_of c
    have uniq : ∀ t, 1 ≤ t → t < 1 + nS → P t = true → ∀ j, j < 2 ^ 31 → nI (x_cnt A P t nS 1 0) = nI j → j < n ∧ g j = t := fun t t1 t2 hP j hj e => by
      obtain ⟨a, ha, rfl⟩ := hg.2.2 t t1 (by omega) hP
      rw [rank_g h13 hS hg ha] at e
      have := nI_eqD e (by omega) hj
      rw [← this]
      exact ⟨ha, rfl⟩
    by_cases d : k < n
    · have d1 : ¬ nI n ≤ nI k := nI_ge d (by omega)
      have hgk := hg.1 k d
      simp only [c, d1, decide_false, Bool.not_false, Bool.and_self, if_true]
      rw [nI_clamp hk, hf k d]
      refine (x_binM_1 (u := g k) hgk.2.2 (by rw [rank_g h13 hS hg d]) nS 1 hgk.1 (by omega) (fun t h1 h2 hP e => ?_)).symm
      have := (uniq t h1 (by omega) hP k hk e).2
      omega
    · have d1 : nI n ≤ nI k := nI_le (by omega) hk
      simp only [d1, decide_true, Bool.not_true, Bool.and_false, Bool.false_eq_true, if_false]
      exact (x_binM_0 nS 1 (fun t h1 h2 hP e => d (uniq t h1 h2 hP k hk e).1)).symm
