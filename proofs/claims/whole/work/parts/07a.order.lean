/-- the order of two slips, as a truth -/
def ltB (A : Rows) (i j : Nat) : Bool := !decide (bfI A (nI i) (nI j) = 0)
/-- rank of a slip's copy, and its day to go, as whole numbers -/
def pK (A : Rows) (i : Nat) : Int := (A 13 (A 15 i).toNatClampNeg).toInt
def gK (A : Rows) (i : Nat) : Int := (A 19 i).toInt
theorem isB_int {x : Int32} (h : isB x) : x.toInt = 0 ∨ x.toInt = 1 := by
  obtain ⟨b, rfl⟩ := h
  cases b
  · exact Or.inl rfl
  · exact Or.inr rfl
theorem ltB_k {A : Rows} (h : ∀ j, isB (A 13 j)) {i j : Nat} (hi : i < 2 ^ 31) (hj : j < 2 ^ 31) : ltB A i j = true ↔ (pK A j < pK A i ∨ (pK A i = pK A j ∧ (gK A i < gK A j ∨ (gK A i = gK A j ∧ i < j)))) := by
  unfold ltB bfI pK gK
  rw [nI_clamp hi, nI_clamp hj]
  have h1 := isB_int (h (A 15 i).toNatClampNeg)
  have h2 := isB_int (h (A 15 j).toNatClampNeg)
  generalize A 13 (A 15 i).toNatClampNeg = x at h1 ⊢
  generalize A 13 (A 15 j).toNatClampNeg = y at h2 ⊢
  generalize A 19 i = u
  generalize A 19 j = v
  have e0 : (0 : Int32).toInt = 0 := rfl
  by_cases c1 : x = y
  · subst c1
    rw [if_pos rfl]
    by_cases c2 : u = v
    · subst c2
      rw [if_pos rfl]
      by_cases c3 : i < j
      · have : decide (nI i < nI j) = true := decide_eq_true (nI_lt c3 hj)
        simp [this, b2, c3]
      · have : decide (nI i < nI j) = false := decide_eq_false (fun q => c3 (nI_ltD q hi hj))
        simp [this, b2, c3]
    · rw [if_neg c2]
      have c2' : ¬ u.toInt = v.toInt := fun q => c2 (Int32.toInt_inj.mp q)
      by_cases c3 : u < v
      · have c4 := Int32.lt_iff_toInt_lt.mp c3
        simp [c3, b2, c4]
      · have c4 : ¬ u.toInt < v.toInt := fun q => c3 (Int32.lt_iff_toInt_lt.mpr q)
        simp [c3, b2, c4, c2']
  · rw [if_neg c1]
    have c1' : ¬ x.toInt = y.toInt := fun q => c1 (Int32.toInt_inj.mp q)
    have c5 : x = 0 ↔ x.toInt = 0 := ⟨fun q => by rw [q]; rfl, fun q => Int32.toInt_inj.mp (q.trans e0.symm)⟩
    simp only [Bool.not_eq_true', decide_eq_false_iff_not, c5]
    omega
theorem ltB_irr {A : Rows} (h : ∀ j, isB (A 13 j)) {i : Nat} (hi : i < 2 ^ 31) : ltB A i i = false := by
  cases hb : ltB A i i with
  | false => rfl
  | true => rw [ltB_k h hi hi] at hb; omega
theorem ltB_tr {A : Rows} (h : ∀ j, isB (A 13 j)) {i j k : Nat} (hi : i < 2 ^ 31) (hj : j < 2 ^ 31) (hk : k < 2 ^ 31) (h1 : ltB A i j = true) (h2 : ltB A j k = true) : ltB A i k = true := by
  rw [ltB_k h hi hj] at h1
  rw [ltB_k h hj hk] at h2
  rw [ltB_k h hi hk]
  omega
theorem ltB_tot {A : Rows} (h : ∀ j, isB (A 13 j)) {i j : Nat} (hi : i < 2 ^ 31) (hj : j < 2 ^ 31) (hne : i ≠ j) (h1 : ltB A i j = false) : ltB A j i = true := by
  rw [ltB_k h hj hi]
  have h2 : ¬ (ltB A i j = true) := by rw [h1]; decide
  rw [ltB_k h hi hj] at h2
  omega
theorem ltB_as {A : Rows} (h : ∀ j, isB (A 13 j)) {i j : Nat} (hi : i < 2 ^ 31) (hj : j < 2 ^ 31) (h1 : ltB A i j = true) : ltB A j i = false := by
  cases hb : ltB A j i with
  | false => rfl
  | true =>
    rw [ltB_k h hi hj] at h1
    rw [ltB_k h hj hi] at hb
    omega
/-- g lists the numbers of 1 .. N - 1 with P, in order, n of them -/
def enm (A : Rows) (P : Nat → Bool) (N n : Nat) (g : Nat → Nat) : Prop :=
  (∀ k, k < n → 1 ≤ g k ∧ g k < N ∧ P (g k) = true) ∧ (∀ a b, a < b → b < n → ltB A (g a) (g b) = true) ∧ ∀ s, 1 ≤ s → s < N → P s = true → ∃ k, k < n ∧ g k = s
/-- one more comes in behind the first k of n, the rest moves up -/
def insF (g : Nat → Nat) (k s : Nat) : Nat → Nat := fun j => if j < k then g j else if j = k then s else g (j - 1)
/-- coming in: where it stops, and what stands there -/
theorem x_enq_ins {A : Rows} (h13 : ∀ j, isB (A 13 j)) {s N : Nat} (hN : N < 2 ^ 31) (hs : s < N) : ∀ (k n : Nat) (f : Nat → Int32) (g : Nat → Nat), k ≤ n → (∀ j, j < n → g j < N) →
    (∀ j, j < k → f j = nI (g j)) → (∀ j, k < j → j ≤ n → f j = nI (g (j - 1))) → (∀ j, k ≤ j → j < n → ltB A s (g j) = true) →
    ∃ m, m ≤ n ∧ (∀ j, j ≤ n → x_enq A (nI s) k f j = nI (insF g m s j)) ∧ (∀ j, m ≤ j → j < n → ltB A s (g j) = true) ∧ (0 < m → ltB A s (g (m - 1)) = false)
  | 0, n, f, g, hk, hg, h1, h2, h3 => by
    refine ⟨0, Nat.zero_le _, fun j hj => ?_, fun j _ hj => h3 j (Nat.zero_le _) hj, fun q => absurd q (Nat.lt_irrefl _)⟩
    unfold x_enq upd insF
    by_cases e : j = 0
    · rw [if_pos e, if_neg (by omega), if_pos e]
    · rw [if_neg e, if_neg (by omega), if_neg e]
      exact h2 j (by omega) hj
  | k + 1, n, f, g, hk, hg, h1, h2, h3 => by
    unfold x_enq
    have hfk : f k = nI (g k) := h1 k (Nat.lt_succ_self k)
    by_cases c : bfI A (nI s) (f k) = 0
    · rw [if_pos c]
      refine ⟨k + 1, hk, fun j hj => ?_, fun j hj1 hj2 => h3 j hj1 hj2, fun _ => ?_⟩
      · unfold upd insF
        by_cases e : j = k + 1
        · rw [if_pos e, if_neg (by omega), if_pos e]
        · rw [if_neg e]
          by_cases e2 : j < k + 1
          · rw [if_pos e2]; exact h1 j e2
          · rw [if_neg e2, if_neg e]; exact h2 j (by omega) hj
      · unfold ltB
        rw [show k + 1 - 1 = k by omega, ← hfk, c]
        rfl
    · rw [if_neg c]
      refine x_enq_ins h13 hN hs k n _ g (by omega) hg (fun j hj => ?_) (fun j hj1 hj2 => ?_) (fun j hj1 hj2 => ?_)
      · unfold upd
        rw [if_neg (by omega)]
        exact h1 j (by omega)
      · unfold upd
        by_cases e : j = k + 1
        · rw [if_pos e, e, show k + 1 - 1 = k by omega]; exact hfk
        · rw [if_neg e]; exact h2 j (by omega) hj2
      · by_cases e : j = k
        · rw [e]
          unfold ltB
          rw [← hfk]
          simp [c]
        · exact h3 j (by omega) hj2
theorem insF_enm {A : Rows} (h13 : ∀ j, isB (A 13 j)) {P : Nat → Bool} {s n m : Nat} {g : Nat → Nat} (hs1 : 1 ≤ s) (hs : s < 2 ^ 30) (hP : P s = true) (h : enm A P s n g) (hm : m ≤ n) (ha : ∀ j, m ≤ j → j < n → ltB A s (g j) = true) (hb : 0 < m → ltB A s (g (m - 1)) = false) : enm A P (s + 1) (n + 1) (insF g m s) := by
  obtain ⟨h1, h2, h3⟩ := h
  have low : ∀ j, j < m → ltB A (g j) s = true := fun j hj => by
    have hg := h1 j (by omega)
    have hg2 := h1 (m - 1) (by omega)
    have hb' := ltB_tot h13 (by omega) (by omega) (by omega) (hb (by omega))
    by_cases e : j = m - 1
    · rw [e]; exact hb'
    · exact ltB_tr h13 (by omega) (by omega) (by omega) (h2 j (m - 1) (by omega) (by omega)) hb'
  refine ⟨fun k hk => ?_, fun a b hab hbn => ?_, fun t ht1 ht hPt => ?_⟩
  · unfold insF
    split
    · have := h1 k (by omega)
      exact ⟨this.1, by omega, this.2.2⟩
    · split
      · exact ⟨hs1, by omega, hP⟩
      · have := h1 (k - 1) (by omega)
        exact ⟨this.1, by omega, this.2.2⟩
  · unfold insF
    by_cases a1 : a < m
    · rw [if_pos a1]
      by_cases b1 : b < m
      · rw [if_pos b1]; exact h2 a b hab (by omega)
      · rw [if_neg b1]
        by_cases b2' : b = m
        · rw [if_pos b2']; exact low a a1
        · rw [if_neg b2']; exact h2 a (b - 1) (by omega) (by omega)
    · rw [if_neg a1]
      by_cases a2 : a = m
      · rw [if_pos a2, if_neg (by omega), if_neg (by omega)]
        exact ha (b - 1) (by omega) (by omega)
      · rw [if_neg a2, if_neg (by omega), if_neg (by omega)]
        exact h2 (a - 1) (b - 1) (by omega) (by omega)
  · by_cases e : t = s
    · refine ⟨m, by omega, ?_⟩
      unfold insF
      rw [if_neg (by omega), if_pos rfl, e]
    · obtain ⟨k, hk, rfl⟩ := h3 t ht1 (by omega) hPt
      by_cases c : k < m
      · exact ⟨k, by omega, by unfold insF; rw [if_pos c]⟩
      · exact ⟨k + 1, by omega, by unfold insF; rw [if_neg (by omega), if_neg (by omega)]; rfl⟩
/-- the queue is the ordered list of those with P -/
theorem x_qu_enm {A : Rows} (h13 : ∀ j, isB (A 13 j)) {P : Nat → Bool} : ∀ (k j n : Nat) (f : Nat → Int32) (g : Nat → Nat), 1 ≤ j → j + k < 2 ^ 30 → enm A P j n g → (∀ i, i < n → f i = nI (g i)) →
    ∃ g', enm A P (j + k) (x_qu A P k j n f).1 g' ∧ ∀ i, i < (x_qu A P k j n f).1 → (x_qu A P k j n f).2 i = nI (g' i)
  | 0, j, n, f, g, hj, hjk, h, hf => ⟨g, h, hf⟩
  | k + 1, j, n, f, g, hj, hjk, h, hf => by
    unfold x_qu
    by_cases c : P j = true
    · rw [if_pos c]
      obtain ⟨m, hm, e1, e2, e3⟩ := x_enq_ins h13 (s := j) (N := j + 1) (by omega) (by omega) n n f g (Nat.le_refl _) (fun i hi => by have := h.1 i hi; omega) hf (fun i h1 h2 => absurd h1 (by omega)) (fun i h1 h2 => absurd h2 (by omega))
      have h' := insF_enm h13 hj (by omega) c h hm e2 e3
      have := x_qu_enm h13 k (j + 1) (n + 1) (x_enq A (nI j) n f) (insF g m j) (by omega) (by omega) h' (fun i hi => e1 i (by omega))
      rw [show j + (k + 1) = j + 1 + k by omega]
      exact this
    · rw [if_neg c]
      have h' : enm A P (j + 1) n g := ⟨fun i hi => ⟨(h.1 i hi).1, by have := (h.1 i hi).2.1; omega, (h.1 i hi).2.2⟩, h.2.1, fun s h1 h2 h3 => by
        by_cases e : s = j
        · rw [e] at h3; exact absurd h3 c
        · exact h.2.2 s h1 (by omega) h3⟩
      have := x_qu_enm h13 k (j + 1) n f g (by omega) (by omega) h' hf
      rw [show j + (k + 1) = j + 1 + k by omega]
      exact this
theorem x_qu_all {A : Rows} (h13 : ∀ j, isB (A 13 j)) (P : Nat → Bool) {nS : Nat} (hS : nS ≤ 150) (f : Nat → Int32) : ∃ g, enm A P (nS + 1) (x_qu A P nS 1 0 f).1 g ∧ ∀ i, i < (x_qu A P nS 1 0 f).1 → (x_qu A P nS 1 0 f).2 i = nI (g i) := by
  have := x_qu_enm h13 (P := P) nS 1 0 f (fun _ => 0) (Nat.le_refl _) (by omega) ⟨fun k hk => absurd hk (Nat.not_lt_zero _), fun a b _ hb => absurd hb (Nat.not_lt_zero _), fun s h1 h2 => absurd h2 (by omega)⟩ (fun i hi => absurd hi (Nat.not_lt_zero _))
  rw [show 1 + nS = nS + 1 by omega] at this
  exact this
