theorem x_te_c {w : Int32} {f f2 : Nat → Int32} : ∀ m k n g h, (∀ i, k ≤ i → i < k + m → f i = f2 i) → x_te w f m k n g h = x_te w f2 m k n g h
  | 0, _, _, _, _, _ => rfl
  | m + 1, k, n, g, h, hf => by
    unfold x_te
    rw [hf k (Nat.le_refl _) (by omega)]
    exact x_te_c m (k + 1) _ _ _ (fun i h1 h2 => hf i (by omega) (by omega))
/-- what the class's taking leaves as it was -/
theorem x_ta_out {d : Int32} {f : Nat → Int32} {t : Nat} : ∀ m k e s g c, (∀ a, k ≤ a → a < k + m → (f a).toNatClampNeg ≠ t) → (x_ta d f m k e s g c).2.1 t = s t ∧ (x_ta d f m k e s g c).2.2.1 t = g t
  | 0, _, _, _, _, _, _ => ⟨rfl, rfl⟩
  | m + 1, k, e, s, g, c, h => by
    unfold x_ta
    have := x_ta_out (d := d) (f := f) (t := t) m (k + 1) (e + 1) (upd s (f k).toNatClampNeg 1) (upd g (f k).toNatClampNeg d) (upd c e (f k)) (fun a h1 h2 => h a (by omega) (by omega))
    have z := (h k (Nat.le_refl _) (by omega)).symm
    rw [up_n z, up_n z] at this
    exact this
theorem x_ta_in {d : Int32} {f : Nat → Int32} {t : Nat} : ∀ m k e s g c, (∃ a, k ≤ a ∧ a < k + m ∧ (f a).toNatClampNeg = t) → (x_ta d f m k e s g c).2.1 t = 1 ∧ (x_ta d f m k e s g c).2.2.1 t = d
  | 0, _, _, _, _, _, ⟨a, h1, h2, _⟩ => absurd h2 (by omega)
  | m + 1, k, e, s, g, c, ⟨a, h1, h2, h3⟩ => by
    unfold x_ta
    by_cases q : ∃ a, k + 1 ≤ a ∧ a < k + 1 + m ∧ (f a).toNatClampNeg = t
    · exact x_ta_in m (k + 1) _ _ _ _ q
    · have ea : a = k := by
        rcases Nat.lt_or_ge k a with z | z
        · exact absurd ⟨a, z, by omega, h3⟩ q
        · omega
      have := x_ta_out (d := d) (f := f) (t := t) m (k + 1) (e + 1) (upd s (f k).toNatClampNeg 1) (upd g (f k).toNatClampNeg d) (upd c e (f k)) (fun a h1 h2 h3 => q ⟨a, h1, h2, h3⟩)
      rw [ea] at h3
      rw [h3, up_s, up_s] at this
      rw [h3]
      exact this
theorem x_ta_e {d : Int32} {f : Nat → Int32} : ∀ m k e s g c, (x_ta d f m k e s g c).1 = e + m
  | 0, _, _, _, _, _ => rfl
  | m + 1, k, e, s, g, c => by
    unfold x_ta
    rw [x_ta_e m]
    omega
theorem x_ta_c0 {d : Int32} {f : Nat → Int32} {t : Nat} : ∀ m k e s g c, t < e → (x_ta d f m k e s g c).2.2.2 t = c t
  | 0, _, _, _, _, _, _ => rfl
  | m + 1, k, e, s, g, c, h => by
    unfold x_ta
    rw [x_ta_c0 m _ _ _ _ _ (by omega), up_n (by omega)]
theorem x_ta_c1 {d : Int32} {f : Nat → Int32} : ∀ m k e s g c i, i < m → (x_ta d f m k e s g c).2.2.2 (e + i) = f (k + i)
  | 0, _, _, _, _, _, _, h => absurd h (by omega)
  | m + 1, k, e, s, g, c, 0, h => by
    unfold x_ta
    rw [x_ta_c0 m _ _ _ _ _ (by omega), Nat.add_zero, up_s]
    rfl
  | m + 1, k, e, s, g, c, i + 1, h => by
    unfold x_ta
    rw [show e + (i + 1) = e + 1 + i by omega, x_ta_c1 m _ _ _ _ _ i (by omega), show k + 1 + i = k + (i + 1) by omega]
theorem x_ta_v {d : Int32} {f : Nat → Int32} {N : Nat} (hf : ∀ j, vp_in (f j) N) : ∀ m k e s g c, (∀ j, vp_in (c j) N) → ∀ j, vp_in ((x_ta d f m k e s g c).2.2.2 j) N
  | 0, _, _, _, _, _, h => h
  | m + 1, k, e, s, g, c, h => by
    unfold x_ta
    exact x_ta_v hf m _ _ _ _ _ (up_in h (hf k))
theorem x_ta_d {d : Int32} {f : Nat → Int32} {N : Nat} (hd : vp_in d N) : ∀ m k e s g c, (∀ j, vp_in (g j) N) → ∀ j, vp_in ((x_ta d f m k e s g c).2.2.1 j) N
  | 0, _, _, _, _, _, h => h
  | m + 1, k, e, s, g, c, h => by
    unfold x_ta
    exact x_ta_d hd m _ _ _ _ _ (up_in h hd)
theorem x_pm_out {L : Nat} {g : Nat → Nat} {t : Nat} : ∀ m k s h p, (∀ a, k ≤ a → a < k + m → g a ≠ t) → (x_pm L g m k s h p).1 t = s t ∧ (x_pm L g m k s h p).2.1 t = h t ∧ (x_pm L g m k s h p).2.2 t = p t
  | 0, _, _, _, _, _ => ⟨rfl, rfl, rfl⟩
  | m + 1, k, s, h, p, hh => by
    unfold x_pm
    have := x_pm_out (L := L) (g := g) (t := t) m (k + 1) (upd s (g k) 1) (upd h (g k) (nI L)) (upd p (g k) (nI k)) (fun a h1 h2 => hh a (by omega) (by omega))
    have z := (hh k (Nat.le_refl _) (by omega)).symm
    rw [up_n z, up_n z, up_n z] at this
    exact this
theorem x_pm_in {L : Nat} {g : Nat → Nat} {n : Nat} (inj : ∀ a b, a < b → b < n → g a ≠ g b) {b : Nat} : ∀ m k s h p, k + m ≤ n → k ≤ b → b < k + m → (x_pm L g m k s h p).1 (g b) = 1 ∧ (x_pm L g m k s h p).2.1 (g b) = nI L ∧ (x_pm L g m k s h p).2.2 (g b) = nI b
  | 0, _, _, _, _, _, _, h2 => absurd h2 (by omega)
  | m + 1, k, s, h, p, hn, h1, h2 => by
    unfold x_pm
    by_cases e : b = k
    · have := x_pm_out (L := L) (g := g) (t := g b) m (k + 1) (upd s (g k) 1) (upd h (g k) (nI L)) (upd p (g k) (nI k)) (fun a h3 h4 z => inj b a (by omega) (by omega) z.symm)
      rw [e, up_s, up_s, up_s] at this
      rw [e]
      exact this
    · exact x_pm_in inj m (k + 1) _ _ _ (by omega) (by omega) (by omega)
theorem x_gm_v {d : Int32} {L : Nat} {s h : Nat → Int32} {t : Nat} : ∀ k j f, x_gm d L s h k j f t = if (j ≤ t ∧ t < j + k) ∧ s t = 1 ∧ h t = nI L then d else f t
  | 0, j, f => by
    unfold x_gm
    rw [if_neg (fun z => by omega)]
  | k + 1, j, f => by
    unfold x_gm
    rw [x_gm_v k]
    by_cases e : t = j
    · subst e
      rw [if_neg (fun z => by omega)]
      by_cases c : s t = 1 ∧ h t = nI L
      · rw [if_pos c, if_pos ⟨⟨by omega, by omega⟩, c⟩, up_s]
      · rw [if_neg c, if_neg (fun z => c z.2)]
    · have e1 : (if s j = 1 ∧ h j = nI L then upd f j d else f) t = f t := by
        split
        · exact up_n e
        · rfl
      rw [e1]
      by_cases c : (j + 1 ≤ t ∧ t < j + 1 + k) ∧ s t = 1 ∧ h t = nI L
      · rw [if_pos c, if_pos ⟨⟨by omega, by omega⟩, c.2⟩]
      · rw [if_neg c, if_neg (fun z => c ⟨⟨by omega, by omega⟩, z.2⟩)]
/-- every place below the last end lies in one load -/
theorem en_at {E : Nat → Nat} (h0 : E 0 = 0) : ∀ nL p, p < E nL → ∃ k i, k < nL ∧ p = E k + i ∧ E k + i < E (k + 1)
  | 0, p, h => absurd h (by omega)
  | nL + 1, p, h => by
    rcases Nat.lt_or_ge p (E nL) with q | q
    · obtain ⟨k, i, h1, h2, h3⟩ := en_at h0 nL p q
      exact ⟨k, i, by omega, h2, h3⟩
    · exact ⟨nL, p - E nL, by omega, by omega, by omega⟩
theorem cntN_d {R R2 : Nat → Bool} : ∀ n, (∀ t, 1 ≤ t → t ≤ n → R t = true → R2 t = false) → cntN R n + cntN R2 n ≤ n
  | 0, _ => Nat.le_refl _
  | n + 1, h => by
    unfold cntN
    have := cntN_d (R := R) (R2 := R2) n (fun t h1 h2 => h t h1 (by omega))
    have z := h (n + 1) (by omega) (Nat.le_refl _)
    cases e : R (n + 1) with
    | true => rw [z e]; simp; omega
    | false => simp; split <;> omega
theorem iv_ld0 {A B : Rows} {nP nR nX nC nS nL nT : Nat} {E : Nat → Nat} (h : Inv A B nP nR nX nC nS nL nT E) {t : Nat} (ht : t ≤ nS) (h1 : A 17 t = 0) : B 21 t = 0 := by
  rcases iv_l2 h t with z | ⟨k, i, _, _, _, _, _, a6⟩
  · exact z
  · exact absurd h1 a6
/-- what is loaded and what waits: no more than the slips -/
theorem iv_cap {A B : Rows} {nP nR nX nC nS nL nT : Nat} {E : Nat → Nat} (h : Inv A B nP nR nX nC nS nL nT E) {P : Nat → Bool} (hP : ∀ t, P t = true → A 17 t = 0) {n : Nat} {g : Nat → Nat} (hg : enm A P (nS + 1) n g) : E nL + n ≤ nS := by
  have hS := iv_lS h
  have hL := iv_lL h
  have hE := enC_le (iv_en h) nL (Nat.le_refl _)
  have c1 : cntN P nS = n := cntN_g n P nS g (fun a ha => ⟨(hg.1 a ha).1, by have := (hg.1 a ha).2.1; omega, (hg.1 a ha).2.2⟩) (fun a b hab hb z => by
    have := hg.2.1 a b hab hb
    rw [z, ltB_irr (iv_b13 h) (by have := (hg.1 b hb).2.1; omega)] at this
    exact absurd this (by decide)) (fun t t1 t2 t3 => hg.2.2 t t1 (by omega) t3)
  have at_ : ∀ p, p < E nL → ∃ k i s, k < nL ∧ p = E k + i ∧ E k + i < E (k + 1) ∧ i < 150 ∧ 1 ≤ s ∧ s ≤ nS ∧ A 22 p = nI s ∧ B 21 s = nI (k + 1) ∧ B 22 s = nI i := fun p hp => by
    obtain ⟨k, i, h1, h2, h3⟩ := en_at (iv_E0 h) nL p hp
    obtain ⟨s, s1, s2, s3, s4, s5⟩ := iv_l1 h k i h1 h3
    have := enC_le (iv_en h) (k + 1) (by omega)
    have s6 := iv_le h (t := s) (by rw [s4]; exact nI_ne0 (by omega) (by omega))
    exact ⟨k, i, s, h1, h2, h3, by omega, s1, s6, by rw [h2]; exact s3, s4, s5⟩
  have c2 : cntN (fun t => !decide (B 21 t = 0)) nS = E nL := by
    refine cntN_g (E nL) _ nS (fun p => (A 22 p).toNatClampNeg) (fun p hp => ?_) (fun a b hab hb z => ?_) (fun t t1 t2 t3 => ?_)
    · obtain ⟨k, i, s, a1, a2, a3, a4, a5, a6, a7, a8, a9⟩ := at_ p hp
      show 1 ≤ (A 22 p).toNatClampNeg ∧ (A 22 p).toNatClampNeg ≤ nS ∧ (!decide (B 21 (A 22 p).toNatClampNeg = 0)) = true
      rw [a7, nI_clamp (show s < 2 ^ 31 by omega)]
      refine ⟨a5, a6, ?_⟩
      rw [a8]
      have := nI_ne0 (n := k + 1) (by omega) (by omega)
      simp [this]
    · obtain ⟨k, i, s, a1, a2, a3, a4, a5, a6, a7, a8, a9⟩ := at_ a (by omega)
      obtain ⟨k', i', s', b1, b2, b3, b4, b5, b6, b7, b8, b9⟩ := at_ b hb
      have z2 : (A 22 a).toNatClampNeg = (A 22 b).toNatClampNeg := z
      rw [a7, b7, nI_clamp (show s < 2 ^ 31 by omega), nI_clamp (show s' < 2 ^ 31 by omega)] at z2
      subst z2
      rw [a8] at b8
      rw [a9] at b9
      have e1 := nI_eqD b8 (by omega) (by omega)
      have e2 := nI_eqD b9 (by omega) (by omega)
      have e3 : k = k' := by omega
      subst e3 e2
      omega
    · have t4 : ¬ B 21 t = 0 := by simpa using t3
      rcases iv_l2 h t with z | ⟨k, i, a1, a2, a3, a4, a5, a6⟩
      · exact absurd z t4
      · refine ⟨E k + i, ?_, ?_⟩
        · have key : ∀ d k, k + d = nL → E k ≤ E nL := by
            intro d
            induction d with
            | zero => intro k hk; rw [show k = nL by omega]; exact Nat.le_refl _
            | succ d ih => intro k hk; exact Nat.le_trans ((iv_en h).2.1 k (by omega)) (ih (k + 1) (by omega))
          have := key (nL - (k + 1)) (k + 1) (by omega)
          omega
        · show (A 22 (E k + i)).toNatClampNeg = t
          rw [a5, nI_clamp (by omega)]
  have c3 := cntN_d (R := P) (R2 := fun t => !decide (B 21 t = 0)) nS (fun t t1 t2 t3 => by simp [iv_ld0 h t2 (hP t t3)])
  omega
