/-- the least of those with P behind last: s, s + 1, .. (k of them), best so far -/
def x_mn (A : Rows) (P : Nat → Bool) (last : Nat) : Nat → Nat → Nat → Nat
  | 0, _, best => best
  | k + 1, s, best => if (P s && (decide (last = 0) || ltB A last s) && (decide (best = 0) || ltB A s best)) = true then x_mn A P last k (s + 1) s else x_mn A P last k (s + 1) best
theorem x_mn_s {A : Rows} {P : Nat → Bool} {last n s best : Nat} (h : s ≤ n) : x_mn A P last (n + 1 - s) s best = if (P s && (decide (last = 0) || ltB A last s) && (decide (best = 0) || ltB A s best)) = true then x_mn A P last (n + 1 - (s + 1)) (s + 1) s else x_mn A P last (n + 1 - (s + 1)) (s + 1) best := by
  obtain ⟨m, hm⟩ : ∃ m, n + 1 - s = m + 1 := ⟨n - s, by omega⟩
  rw [hm, show n + 1 - (s + 1) = m by omega]
  rfl
theorem x_mn_0 {A : Rows} {P : Nat → Bool} {last : Nat} : ∀ (k s : Nat), (∀ t, s ≤ t → t < s + k → (P t && (decide (last = 0) || ltB A last t)) = false) → x_mn A P last k s 0 = 0
  | 0, _, _ => rfl
  | k + 1, s, h => by
    unfold x_mn
    rw [h s (Nat.le_refl _) (by omega)]
    simp only [Bool.false_and, Bool.false_eq_true, if_false]
    exact x_mn_0 k (s + 1) (fun t h1 h2 => h t (by omega) (by omega))
theorem x_mn_1 {A : Rows} (h13 : ∀ j, isB (A 13 j)) {P : Nat → Bool} {last m : Nat} (hm : m < 2 ^ 30) (hm0 : 1 ≤ m) (hE : (P m && (decide (last = 0) || ltB A last m)) = true) : ∀ (k s best : Nat), s + k < 2 ^ 30 → (∀ t, s ≤ t → t < s + k → (P t && (decide (last = 0) || ltB A last t)) = true → t = m ∨ ltB A m t = true) → (m < s → best = m) → (s ≤ m → m < s + k ∧ (best = 0 ∨ ltB A m best = true)) → x_mn A P last k s best = m
  | 0, s, best, hb, h1, h2, h3 => by
    unfold x_mn
    rcases Nat.lt_or_ge m s with q | q
    · exact h2 q
    · have := (h3 q).1; omega
  | k + 1, s, best, hb, h1, h2, h3 => by
    unfold x_mn
    have h1' : ∀ t, s + 1 ≤ t → t < s + 1 + k → (P t && (decide (last = 0) || ltB A last t)) = true → t = m ∨ ltB A m t = true := fun t a b => h1 t (by omega) (by omega)
    rcases Nat.lt_trichotomy s m with q | q | q
    · have h3' := h3 (by omega)
      by_cases c : (P s && (decide (last = 0) || ltB A last s) && (decide (best = 0) || ltB A s best)) = true
      · rw [if_pos c]
        have cE : (P s && (decide (last = 0) || ltB A last s)) = true := (Bool.and_eq_true _ _ ▸ c : _ ∧ _).1
        have := (h1 s (Nat.le_refl _) (by omega) cE).resolve_left (by omega)
        exact x_mn_1 h13 hm hm0 hE k (s + 1) s (by omega) h1' (fun z => absurd z (by omega)) (fun z => ⟨by omega, Or.inr this⟩)
      · rw [if_neg c]
        exact x_mn_1 h13 hm hm0 hE k (s + 1) best (by omega) h1' (fun z => absurd z (by omega)) (fun z => ⟨by omega, h3'.2⟩)
    · subst q
      have h3' := (h3 (Nat.le_refl _)).2
      have c : (P s && (decide (last = 0) || ltB A last s) && (decide (best = 0) || ltB A s best)) = true := by
        rw [hE]
        rcases h3' with z | z
        · simp [z]
        · simp [z]
      rw [if_pos c]
      exact x_mn_1 h13 hm hm0 hE k (s + 1) s (by omega) h1' (fun _ => rfl) (fun z => absurd z (by omega))
    · have hbm := h2 q
      subst hbm
      have c : ¬ (P s && (decide (last = 0) || ltB A last s) && (decide (best = 0) || ltB A s best)) = true := fun z => by
        simp only [Bool.and_eq_true, Bool.or_eq_true, decide_eq_true_eq] at z
        have cE : (P s && (decide (last = 0) || ltB A last s)) = true := by simp only [Bool.and_eq_true, Bool.or_eq_true, decide_eq_true_eq]; exact z.1
        have := (h1 s (Nat.le_refl _) (by omega) cE).resolve_left (by omega)
        rw [ltB_as h13 (by omega) (by omega) this] at z
        rcases z.2 with y | y
        · omega
        · exact absurd y (by decide)
      rw [if_neg c]
      exact x_mn_1 h13 hm hm0 hE k (s + 1) best (by omega) h1' (fun _ => rfl) (fun z => absurd z (by omega))
/-- the one that was taken last: none at first -/
def lst (g : Nat → Nat) : Nat → Nat
  | 0 => 0
  | i + 1 => g i
def pDu (s1 : Nat → Int32) (A : Rows) (x d : Int32) (j : Nat) : Bool := decide (s1 j = 0) && decide (A 16 j = x) && decide (A 19 j ≤ d)
/-- behind the i-th the least one is the i-th of the list; at its end none is left -/
theorem x_mn_g {A : Rows} (h13 : ∀ j, isB (A 13 j)) {x d : Int32} {nS n : Nat} (hS : nS ≤ 150) {g : Nat → Nat} (h : enm A (pDue A x d) (nS + 1) n g) {s1 : Nat → Int32} {i : Nat} (hi : i ≤ n) (hs1 : ∀ a, i ≤ a → a < n → s1 (g a) = 0) (hs0 : ∀ s, s1 s = 0 → A 17 s = 0) :
    x_mn A (pDu s1 A x d) (lst g i) nS 1 0 = if i < n then g i else 0 := by
  have b : ∀ a, a < n → 1 ≤ g a ∧ g a ≤ 150 := fun a ha => ⟨(h.1 a ha).1, by have := (h.1 a ha).2.1; omega⟩
  have fwd : ∀ t, 1 ≤ t → t < 1 + nS → (pDu s1 A x d t && (decide (lst g i = 0) || ltB A (lst g i) t)) = true → ∃ a, i ≤ a ∧ a < n ∧ g a = t := fun t t1 t2 ht => by
    simp only [pDu, Bool.and_eq_true, Bool.or_eq_true, decide_eq_true_eq] at ht
    obtain ⟨⟨⟨e1, e2⟩, e3⟩, e4⟩ := ht
    obtain ⟨a, ha, rfl⟩ := h.2.2 t t1 (by omega) (by simp [pDue, hs0 t e1, e2, e3])
    refine ⟨a, ?_, ha, rfl⟩
    rcases Nat.lt_or_ge a i with q | q
    · exfalso
      obtain ⟨j, rfl⟩ : ∃ j, i = j + 1 := ⟨i - 1, by omega⟩
      have bj := b j (by omega)
      have ba := b a ha
      have e5 : ltB A (g j) (g a) = true := e4.resolve_left (show ¬ g j = 0 by omega)
      rcases Nat.lt_or_ge a j with z | z
      · rw [ltB_as h13 (by omega) (by omega) (h.2.1 a j z (by omega))] at e5
        exact absurd e5 (by decide)
      · rw [show j = a by omega, ltB_irr h13 (by omega)] at e5
        exact absurd e5 (by decide)
    · exact q
  by_cases c : i < n
  · rw [if_pos c]
    have bi := b i c
    have hi' := h.1 i c
    refine x_mn_1 h13 (by omega) (by omega) ?_ nS 1 0 (by omega) (fun t t1 t2 ht => ?_) (fun z => absurd z (by omega)) (fun z => ⟨by omega, Or.inl rfl⟩)
    · have hp := hi'.2.2
      simp only [pDue, Bool.and_eq_true, decide_eq_true_eq] at hp
      simp only [pDu, Bool.and_eq_true, Bool.or_eq_true, decide_eq_true_eq]
      refine ⟨⟨⟨hs1 i (Nat.le_refl _) c, hp.1.2⟩, hp.2⟩, ?_⟩
      cases i with
      | zero => exact Or.inl rfl
      | succ j => exact Or.inr (h.2.1 j (j + 1) (by omega) c)
    · obtain ⟨a, h1, h2, rfl⟩ := fwd t t1 t2 ht
      by_cases e : a = i
      · rw [e]; exact Or.inl rfl
      · exact Or.inr (h.2.1 i a (by omega) h2)
  · rw [if_neg c]
    refine x_mn_0 nS 1 (fun t t1 t2 => ?_)
    cases hb : (pDu s1 A x d t && (decide (lst g i = 0) || ltB A (lst g i) t)) with
    | false => rfl
    | true =>
      obtain ⟨a, h1, h2, _⟩ := fwd t t1 t2 hb
      omega
/-- the model's putting: states, marks of the load, places in it -/
def x_pm (L : Nat) (g : Nat → Nat) : Nat → Nat → (Nat → Int32) → (Nat → Int32) → (Nat → Int32) → (Nat → Int32) × (Nat → Int32) × (Nat → Int32)
  | 0, _, s, h, p => (s, h, p)
  | m + 1, k, s, h, p => x_pm L g m (k + 1) (upd s (g k) 1) (upd h (g k) (nI L)) (upd p (g k) (nI k))
theorem x_pm_s {L : Nat} {g : Nat → Nat} {m k : Nat} {s h p : Nat → Int32} (hk : k < m) : x_pm L g (m - k) k s h p = x_pm L g (m - (k + 1)) (k + 1) (upd s (g k) 1) (upd h (g k) (nI L)) (upd p (g k) (nI k)) := by
  obtain ⟨i, hi⟩ : ∃ i, m - k = i + 1 := ⟨m - k - 1, by omega⟩
  rw [hi, show m - (k + 1) = i by omega]
  rfl
/-- .. and the day of those that were put now -/
def x_gm (d : Int32) (L : Nat) (s h : Nat → Int32) : Nat → Nat → (Nat → Int32) → (Nat → Int32)
  | 0, _, f => f
  | k + 1, j, f => x_gm d L s h k (j + 1) (if s j = 1 ∧ h j = nI L then upd f j d else f)
theorem x_gm_s {d : Int32} {L : Nat} {s h f : Nat → Int32} {n j : Nat} (hj : j ≤ n) : x_gm d L s h (n + 1 - j) j f = x_gm d L s h (n + 1 - (j + 1)) (j + 1) (if s j = 1 ∧ h j = nI L then upd f j d else f) := by
  obtain ⟨m, hm⟩ : ∃ m, n + 1 - j = m + 1 := ⟨n - j, by omega⟩
  rw [hm, show n + 1 - (j + 1) = m by omega]
  rfl
def gI (g : Nat → Nat) : Nat → Int32 := fun k => nI (g k)
def s_loadM (A : Rows) (nR nX nS nL nT n tk : Nat) (w : Int32) (g : Nat → Nat) (x d : Int32) : Int32 × Rows :=
  if okL A nR nX nL x d = true then (nI (nL + 1), (ua (ua (ua (ua (ua (ua (ua (ua A 0 (uz (uz (uz (A 0) 7 0) 5 (nI (nL + 1))) 6 (nI (x_te w (gI g) (n - tk) tk nT (A 23) (A 24)).1))) 7 (upd (A 7) x.toNatClampNeg d)) 17 ((x_pm (nL + 1) g tk 0 (A 17) (A 21) (A 22)).1)) 19 ((x_gm d (nL + 1) (x_pm (nL + 1) g tk 0 (A 17) (A 21) (A 22)).1 (x_pm (nL + 1) g tk 0 (A 17) (A 21) (A 22)).2.1 nS 1 (A 19)))) 21 ((x_pm (nL + 1) g tk 0 (A 17) (A 21) (A 22)).2.1)) 22 ((x_pm (nL + 1) g tk 0 (A 17) (A 21) (A 22)).2.2)) 23 ((x_te w (gI g) (n - tk) tk nT (A 23) (A 24)).2.1)) 24 ((x_te w (gI g) (n - tk) tk nT (A 23) (A 24)).2.2))) else (0, T0 A)
