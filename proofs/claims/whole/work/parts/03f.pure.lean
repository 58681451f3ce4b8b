/-- a slip comes into the queue f of k: from the end on, as long as it goes before -/
def x_enq (A : Rows) (s : Int32) : Nat → (Nat → Int32) → (Nat → Int32)
  | 0, f => upd f 0 s
  | k + 1, f => if bfI A s (f k) = 0 then upd f (k + 1) s else x_enq A s k (upd f (k + 1) (f k))
theorem x_enq_in {A : Rows} {s : Int32} (hs : vp_in s 151) : ∀ (k : Nat) (f : Nat → Int32), (∀ j, vp_in (f j) 151) → ∀ j, vp_in (x_enq A s k f j) 151
  | 0, f, h => fun j => by
    unfold x_enq upd
    split
    · exact hs
    · exact h j
  | k + 1, f, h => fun j => by
    unfold x_enq
    split
    · unfold upd
      split
      · exact hs
      · exact h j
    · refine x_enq_in hs k _ (fun i => ?_) j
      unfold upd
      split
      · exact h k
      · exact h i
/-- slips j, j + 1, .. (k of them) for which P holds come into the queue f of n -/
def x_qu (A : Rows) (P : Nat → Bool) : Nat → Nat → Nat → (Nat → Int32) → Nat × (Nat → Int32)
  | 0, _, n, f => (n, f)
  | k + 1, j, n, f => if P j = true then x_qu A P k (j + 1) (n + 1) (x_enq A (nI j) n f) else x_qu A P k (j + 1) n f
theorem x_qu_s {A : Rows} {P : Nat → Bool} {m j n : Nat} {f : Nat → Int32} (h : j ≤ m) : x_qu A P (m + 1 - j) j n f = if P j = true then x_qu A P (m + 1 - (j + 1)) (j + 1) (n + 1) (x_enq A (nI j) n f) else x_qu A P (m + 1 - (j + 1)) (j + 1) n f := by
  obtain ⟨k, hk⟩ : ∃ k, m + 1 - j = k + 1 := ⟨m - j, by omega⟩
  rw [hk, show m + 1 - (j + 1) = k by omega]
  rfl
theorem x_qu_in {A : Rows} {P : Nat → Bool} : ∀ (k j n : Nat) (f : Nat → Int32), j + k ≤ 151 → (∀ j, vp_in (f j) 151) → ∀ i, vp_in ((x_qu A P k j n f).2 i) 151
  | 0, _, _, _, _, h => h
  | k + 1, j, n, f, hj, h => by
    unfold x_qu
    split
    · exact x_qu_in k (j + 1) _ _ (by omega) (x_enq_in (vp_in_nI (by omega) (by omega)) n f h)
    · exact x_qu_in k (j + 1) _ _ (by omega) h
theorem x_qu_n {A : Rows} {P : Nat → Bool} : ∀ (k j n : Nat) (f : Nat → Int32), n ≤ (x_qu A P k j n f).1 ∧ (x_qu A P k j n f).1 ≤ n + k
  | 0, _, n, _ => ⟨Nat.le_refl _, Nat.le_refl _⟩
  | k + 1, j, n, f => by
    unfold x_qu
    split
    · have := x_qu_n (A := A) (P := P) k (j + 1) (n + 1) (x_enq A (nI j) n f)
      omega
    · have := x_qu_n (A := A) (P := P) k (j + 1) n f
      omega
def pBin (A : Rows) (a b : Int32) (j : Nat) : Bool := decide (A 17 j = 0) && joC A (A 16 j) a b
def pDue (A : Rows) (x d : Int32) (j : Nat) : Bool := decide (A 17 j = 0) && decide (A 16 j = x) && decide (A 19 j ≤ d)
def teN (n : Nat) : Nat := if n < 100 then n + 1 else n
def teG (n : Nat) (x : Int32) (g : Nat → Int32) : Nat → Int32 := if n < 100 then upd g n x else g
/-- what stands in the queue from k on (m of it) is told: n told so far -/
def x_te (w : Int32) (f : Nat → Int32) : Nat → Nat → Nat → (Nat → Int32) → (Nat → Int32) → Nat × (Nat → Int32) × (Nat → Int32)
  | 0, _, n, g, h => (n, g, h)
  | m + 1, k, n, g, h => x_te w f m (k + 1) (teN n) (teG n w g) (teG n (f k) h)
theorem teN_le {n : Nat} (h : n ≤ 100) : teN n ≤ 100 := by unfold teN; split <;> omega
theorem x_te_s {w : Int32} {f g h : Nat → Int32} {m k n : Nat} (hk : k < m) : x_te w f (m - k) k n g h = x_te w f (m - (k + 1)) (k + 1) (teN n) (teG n w g) (teG n (f k) h) := by
  obtain ⟨i, hi⟩ : ∃ i, m - k = i + 1 := ⟨m - k - 1, by omega⟩
  rw [hi, show m - (k + 1) = i by omega]
  rfl
theorem x_te_n {w : Int32} {f : Nat → Int32} : ∀ (m k n : Nat) (g h : Nat → Int32), n ≤ 100 → (x_te w f m k n g h).1 ≤ 100
  | 0, _, _, _, _, hn => hn
  | m + 1, k, n, g, h, hn => by
    unfold x_te
    exact x_te_n m (k + 1) _ _ _ (teN_le hn)
/-- what stands in the queue from k on (m of it) is loaded: states, days to go, cargo, its end -/
def x_ta (d : Int32) (f : Nat → Int32) : Nat → Nat → Nat → (Nat → Int32) → (Nat → Int32) → (Nat → Int32) → Nat × (Nat → Int32) × (Nat → Int32) × (Nat → Int32)
  | 0, _, e, s, g, c => (e, s, g, c)
  | m + 1, k, e, s, g, c => x_ta d f m (k + 1) (e + 1) (upd s (f k).toNatClampNeg 1) (upd g (f k).toNatClampNeg d) (upd c e (f k))
theorem x_ta_s {d : Int32} {f s g c : Nat → Int32} {m k e : Nat} (hk : k < m) : x_ta d f (m - k) k e s g c = x_ta d f (m - (k + 1)) (k + 1) (e + 1) (upd s (f k).toNatClampNeg 1) (upd g (f k).toNatClampNeg d) (upd c e (f k)) := by
  obtain ⟨i, hi⟩ : ∃ i, m - k = i + 1 := ⟨m - k - 1, by omega⟩
  rw [hi, show m - (k + 1) = i by omega]
  rfl
theorem up_in {f : Nat → Int32} {k N : Nat} {x : Int32} (h : ∀ j, vp_in (f j) N) (hx : vp_in x N) : ∀ j, vp_in (upd f k x j) N := fun j => by
  unfold upd
  split
  · exact hx
  · exact h j
theorem x_enq_c {A B : Rows} (h : ∀ x y, bfI A x y = bfI B x y) (s : Int32) : ∀ (k : Nat) (f : Nat → Int32), x_enq A s k f = x_enq B s k f
  | 0, _ => rfl
  | k + 1, f => by
    unfold x_enq
    rw [h, x_enq_c h s k]
theorem x_qu_c {A B : Rows} (h : ∀ x y, bfI A x y = bfI B x y) (P : Nat → Bool) : ∀ (k j n : Nat) (f : Nat → Int32), x_qu A P k j n f = x_qu B P k j n f
  | 0, _, _, _ => rfl
  | k + 1, j, n, f => by
    unfold x_qu
    rw [x_enq_c h, x_qu_c h P k, x_qu_c h P k]
theorem ar_dec (k : Nat) : nI (k + 1) + Int32.ofInt (-1) = nI k := pk_m1 k
theorem uu_ (f : Nat → Int32) (k : Nat) (x y : Int32) : upd (upd f k x) k y = upd f k y := by
  funext j
  unfold upd
  split <;> rfl
theorem us_ (f : Nat → Int32) (k : Nat) : upd f k (f k) = f := by
  funext j
  unfold upd
  split
  · rename_i h; rw [h]
  · rfl
theorem rgC_25 {A : Rows} {z f : Nat → Int32} (h : rgC A) (hf : ∀ j, vp_in (f j) 151) : rgC (ua (ua A 0 z) 25 f) := ⟨h.1, h.2.1, h.2.2.1, hf, h.2.2.2.2⟩
