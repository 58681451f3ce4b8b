theorem iv_load {A B : Rows} {nP nR nX nC nS nL nT : Nat} {E : Nat → Nat} (h : Inv A B nP nR nX nC nS nL nT E) {x d : Int32} {n m r T : Nat} {f F3 F4 : Nat → Int32} {g : Nat → Nat} (hd : vp_in d 100000) (hL : nL < 60) (hg : enm A (pDue A x d) (nS + 1) n g) (hf : ∀ i, i < n → f i = nI (g i)) (hv : ∀ j, vp_in (f j) 151) (hm : m ≤ n) (hm9 : m ≤ 99) (hT : T ≤ 100) : Inv (ua (ua (ua (ua (ua (ua (ua (ua (ua A 0 (uz (uz (uz (A 0) 5 (nI (nL + 1))) 7 (nI n)) 6 (nI T))) 7 (upd (A 7) r d)) 17 ((x_ta d f m 0 (E nL) (A 17) (A 19) (A 22)).2.1)) 19 ((x_ta d f m 0 (E nL) (A 17) (A 19) (A 22)).2.2.1)) 21 (upd (A 21) (nL + 1) (nI (E nL + m)))) 22 ((x_ta d f m 0 (E nL) (A 17) (A 19) (A 22)).2.2.2)) 23 F3) 24 F4) 25 f) (ua (ua (ua (ua (ua (ua (ua (ua B 0 (uz (uz (uz (B 0) 7 0) 5 (nI (nL + 1))) 6 (nI T))) 7 (upd (B 7) r d)) 17 ((x_pm (nL + 1) g m 0 (B 17) (B 21) (B 22)).1)) 19 (x_gm d (nL + 1) (x_pm (nL + 1) g m 0 (B 17) (B 21) (B 22)).1 (x_pm (nL + 1) g m 0 (B 17) (B 21) (B 22)).2.1 nS 1 (B 19))) 21 ((x_pm (nL + 1) g m 0 (B 17) (B 21) (B 22)).2.1)) 22 ((x_pm (nL + 1) g m 0 (B 17) (B 21) (B 22)).2.2)) 23 F3) 24 F4) nP nR nX nC nS (nL + 1) T (fun k => if k ≤ nL then E k else E nL + m) := by
  have hh := h
  obtain ⟨z_cP, z_mP, z_lP, z_cR, z_mR, z_lR, z_cX, z_mX, z_lX, z_cC, z_mC, z_lC, z_cS, z_mS, z_lS, z_cL, z_mL, z_lL, z_cT, z_mT, z_lT, z_e2, z_e3, z_e4, z_e5, z_e6, z_e7, z_e8, z_e9, z_e10, z_e12, z_e13, z_e14, z_e15, z_e16, z_e17, z_e18, z_e19, z_e20, z_e23, z_e24, z_v15, z_v16, z_v22, z_v25, z_v3, z_v5, z_v6, z_v19, z_b1, z_d1, z_b13, z_b14, z_op, z_w8, z_sd, z_w1, z_w2, z_w3, z_w4, z_w5, z_w6, z_w7, z_en, z_E0, z_l1, z_l2, z_l3, z_l4⟩ := hh
  have hS := iv_lS h
  have cap := iv_cap h (P := pDue A x d) (fun t ht => by
    simp only [pDue, Bool.and_eq_true, decide_eq_true_eq] at ht
    exact ht.1.1) hg
  have gb : ∀ a, a < n → 1 ≤ g a ∧ g a ≤ nS ∧ A 17 (g a) = 0 := fun a ha => by
    have q := hg.1 a ha
    refine ⟨q.1, by omega, ?_⟩
    have z := q.2.2
    simp only [pDue, Bool.and_eq_true, decide_eq_true_eq] at z
    exact z.1.1
  have inj : ∀ a b, a < b → b < n → g a ≠ g b := fun a b hab hb z => by
    have := hg.2.1 a b hab hb
    rw [z, ltB_irr (iv_b13 h) (by have := gb b hb; omega)] at this
    exact absurd this (by decide)
  have fc : ∀ a, a < n → (f a).toNatClampNeg = g a := fun a ha => by
    rw [hf a ha, nI_clamp (by have := gb a ha; omega)]
  have g0 : ∀ a, a < n → B 21 (g a) = 0 := fun a ha => iv_ld0 h (gb a ha).2.1 (gb a ha).2.2
  -- in: among those that are taken; out: not
  have ain : ∀ a, a < m → (x_ta d f m 0 (E nL) (A 17) (A 19) (A 22)).2.1 (g a) = 1 ∧ (x_ta d f m 0 (E nL) (A 17) (A 19) (A 22)).2.2.1 (g a) = d := fun a ha => x_ta_in m 0 _ _ _ _ ⟨a, by omega, by omega, fc a (by omega)⟩
  have aout : ∀ t, (∀ a, a < m → g a ≠ t) → (x_ta d f m 0 (E nL) (A 17) (A 19) (A 22)).2.1 t = A 17 t ∧ (x_ta d f m 0 (E nL) (A 17) (A 19) (A 22)).2.2.1 t = A 19 t := fun t ht => x_ta_out m 0 _ _ _ _ (fun a h1 h2 => by rw [fc a (by omega)]; exact ht a (by omega))
  have bin : ∀ a, a < m → (x_pm (nL + 1) g m 0 (B 17) (B 21) (B 22)).1 (g a) = 1 ∧ (x_pm (nL + 1) g m 0 (B 17) (B 21) (B 22)).2.1 (g a) = nI (nL + 1) ∧ (x_pm (nL + 1) g m 0 (B 17) (B 21) (B 22)).2.2 (g a) = nI a := fun a ha => x_pm_in inj m 0 _ _ _ (by omega) (by omega) (by omega)
  have bout : ∀ t, (∀ a, a < m → g a ≠ t) → (x_pm (nL + 1) g m 0 (B 17) (B 21) (B 22)).1 t = B 17 t ∧ (x_pm (nL + 1) g m 0 (B 17) (B 21) (B 22)).2.1 t = B 21 t ∧ (x_pm (nL + 1) g m 0 (B 17) (B 21) (B 22)).2.2 t = B 22 t := fun t ht => x_pm_out m 0 _ _ _ (fun a h1 h2 => ht a (by omega))
  have car0 : ∀ p, p < E nL → (x_ta d f m 0 (E nL) (A 17) (A 19) (A 22)).2.2.2 p = A 22 p := fun p hp => x_ta_c0 m 0 _ _ _ _ hp
  have car1 : ∀ i, i < m → (x_ta d f m 0 (E nL) (A 17) (A 19) (A 22)).2.2.2 (E nL + i) = nI (g i) := fun i hi => by
    rw [x_ta_c1 m 0 _ _ _ _ i hi, Nat.zero_add, hf i (by omega)]
  have tv : ∀ j, vp_in ((x_ta d f m 0 (E nL) (A 17) (A 19) (A 22)).2.2.2 j) 151 := x_ta_v hv m 0 _ _ _ _ (iv_v22 h)
  have td : ∀ j, vp_in ((x_ta d f m 0 (E nL) (A 17) (A 19) (A 22)).2.2.1 j) 100000 := x_ta_d hd m 0 _ _ _ _ (iv_v19 h)
  have dec_ : ∀ t, (∃ a, a < m ∧ g a = t) ∨ (∀ a, a < m → g a ≠ t) := fun t => by
    by_cases z : ∃ a, a < m ∧ g a = t
    · exact Or.inl z
    · exact Or.inr (fun a h1 h2 => z ⟨a, h1, h2⟩)
  have e17 : (x_pm (nL + 1) g m 0 (B 17) (B 21) (B 22)).1 = (x_ta d f m 0 (E nL) (A 17) (A 19) (A 22)).2.1 := by
    funext t
    rcases dec_ t with ⟨a, h1, rfl⟩ | z
    · rw [(ain a h1).1, (bin a h1).1]
    · rw [(aout t z).1, (bout t z).1, iv_e17 h]
  have e19 : x_gm d (nL + 1) (x_pm (nL + 1) g m 0 (B 17) (B 21) (B 22)).1 (x_pm (nL + 1) g m 0 (B 17) (B 21) (B 22)).2.1 nS 1 (B 19) = (x_ta d f m 0 (E nL) (A 17) (A 19) (A 22)).2.2.1 := by
    funext t
    rw [x_gm_v]
    rcases dec_ t with ⟨a, h1, rfl⟩ | z
    · have q := gb a (by omega)
      rw [(ain a h1).2, if_pos ⟨⟨by omega, by omega⟩, (bin a h1).1, (bin a h1).2.1⟩]
    · rw [(aout t z).2, (bout t z).1, (bout t z).2.1, if_neg, iv_e19 h]
      intro y
      rcases iv_l2 h t with w | ⟨k, i, b1, b2, b3, _⟩
      · rw [w] at y
        exact absurd y.2.2.symm (nI_ne0 (by omega) (by omega))
      · rw [b3] at y
        have := nI_eqD y.2.2 (by omega) (by omega)
        omega
  generalize hsN : (x_ta d f m 0 (E nL) (A 17) (A 19) (A 22)).2.1 = sN at e17 ain aout ⊢
  generalize hgN : (x_ta d f m 0 (E nL) (A 17) (A 19) (A 22)).2.2.1 = gN at e19 ain aout td ⊢
  generalize hcN : (x_ta d f m 0 (E nL) (A 17) (A 19) (A 22)).2.2.2 = cN at car0 car1 tv ⊢
  rw [e19]
  rw [e17] at bin bout ⊢
  generalize hhN : (x_pm (nL + 1) g m 0 (B 17) (B 21) (B 22)).2.1 = hN at bin bout ⊢
  generalize hpN : (x_pm (nL + 1) g m 0 (B 17) (B 21) (B 22)).2.2 = pN at bin bout ⊢
  have key : ∀ k, k ≤ nL → E k ≤ E nL := by
    have kk : ∀ d k, k + d = nL → E k ≤ E nL := by
      intro d
      induction d with
      | zero => intro k hk; rw [show k = nL by omega]; exact Nat.le_refl _
      | succ d ih => intro k hk; exact Nat.le_trans ((iv_en h).2.1 k (by omega)) (ih (k + 1) (by omega))
    exact fun k hk => kk (nL - k) k (by omega)
  have s0 : ∀ s, sN s = 0 → A 17 s = 0 ∧ ∀ a, a < m → g a ≠ s := fun s hs => by
    rcases dec_ s with ⟨a, h1, rfl⟩ | z
    · rw [(ain a h1).1] at hs
      exact absurd hs (by decide)
    · rw [(aout s z).1] at hs
      exact ⟨hs, z⟩
  have w2 : ∀ s, 1 ≤ s → s ≤ nS → (sN s = 0 ∨ sN s = 1 ∨ sN s = 3) → A 12 (A 15 s).toNatClampNeg = nI s := fun s s1 s2 s3 => by
    rcases dec_ s with ⟨a, h1, rfl⟩ | z
    · exact iv_w2 h _ s1 s2 (Or.inl (gb a (by omega)).2.2)
    · rw [(aout s z).1] at s3
      exact iv_w2 h s s1 s2 s3
  have w4 : ∀ s, nS < s → sN s = 0 := fun s hs => by
    rw [(aout s (fun a ha z => by have := (gb a (by omega)).2.1; omega)).1]
    exact iv_w4 h s hs
  have en : enC (ua (ua (ua (ua (ua (ua (ua (ua (ua A 0 (uz (uz (uz (A 0) 5 (nI (nL + 1))) 7 (nI n)) 6 (nI T))) 7 (upd (A 7) r d)) 17 (sN)) 19 (gN)) 21 (upd (A 21) (nL + 1) (nI (E nL + m)))) 22 (cN)) 23 F3) 24 F4) 25 f) (nL + 1) (fun k => if k ≤ nL then E k else E nL + m) := by
    refine ⟨fun k hk => ?_, fun k hk => ?_, ?_⟩
    · show upd (A 21) (nL + 1) (nI (E nL + m)) k = nI (if k ≤ nL then E k else E nL + m)
      by_cases e : k = nL + 1
      · rw [e, up_s, if_neg (by omega)]
      · rw [up_n e, if_pos (show k ≤ nL by omega)]
        exact (iv_en h).1 k (by omega)
    · show (if k ≤ nL then E k else E nL + m) ≤ (if k + 1 ≤ nL then E (k + 1) else E nL + m)
      by_cases e : k = nL
      · rw [e, if_pos (Nat.le_refl _), if_neg (by omega)]
        omega
      · rw [if_pos (show k ≤ nL by omega), if_pos (show k + 1 ≤ nL by omega)]
        exact (iv_en h).2.1 k (by omega)
    · show (if nL + 1 ≤ nL then E (nL + 1) else E nL + m) ≤ 150
      rw [if_neg (by omega)]
      omega
  have l1 : ∀ k i, k < nL + 1 → (if k ≤ nL then E k else E nL + m) + i < (if k + 1 ≤ nL then E (k + 1) else E nL + m) → ∃ s, 1 ≤ s ∧ s ≤ 150 ∧ cN ((if k ≤ nL then E k else E nL + m) + i) = nI s ∧ hN s = nI (k + 1) ∧ pN s = nI i := fun k i hk hi => by
    rw [if_pos (show k ≤ nL by omega)] at hi ⊢
    by_cases e : k = nL
    · rw [e, if_neg (show ¬ nL + 1 ≤ nL by omega)] at hi
      rw [e]
      have hi2 : i < m := by omega
      have q := gb i (by omega)
      exact ⟨g i, q.1, by omega, car1 i hi2, (bin i hi2).2.1, (bin i hi2).2.2⟩
    · rw [if_pos (show k + 1 ≤ nL by omega)] at hi
      obtain ⟨s, a1, a2, a3, a4, a5⟩ := iv_l1 h k i (by omega) hi
      have ns : ∀ a, a < m → g a ≠ s := fun a ha z => by
        have := g0 a (by omega)
        rw [z, a4] at this
        exact nI_ne0 (by omega) (by omega) this
      have kb := key (k + 1) (by omega)
      exact ⟨s, a1, a2, by rw [car0 _ (by omega)]; exact a3, by rw [(bout s ns).2.1]; exact a4, by rw [(bout s ns).2.2]; exact a5⟩
  have l2 : ∀ s, hN s = 0 ∨ ∃ k i, k < nL + 1 ∧ (if k ≤ nL then E k else E nL + m) + i < (if k + 1 ≤ nL then E (k + 1) else E nL + m) ∧ hN s = nI (k + 1) ∧ pN s = nI i ∧ cN ((if k ≤ nL then E k else E nL + m) + i) = nI s ∧ ¬ sN s = 0 := fun s => by
    rcases dec_ s with ⟨a, h1, rfl⟩ | z
    · refine Or.inr ⟨nL, a, by omega, ?_, (bin a h1).2.1, (bin a h1).2.2, ?_, ?_⟩
      · rw [if_pos (Nat.le_refl _), if_neg (by omega)]
        omega
      · rw [if_pos (Nat.le_refl _)]
        exact car1 a h1
      · rw [(ain a h1).1]
        decide
    · rcases iv_l2 h s with w | ⟨k, i, b1, b2, b3, b4, b5, b6⟩
      · exact Or.inl ((bout s z).2.1.trans w)
      · have kb := key (k + 1) (by omega)
        refine Or.inr ⟨k, i, by omega, ?_, (bout s z).2.1.trans b3, (bout s z).2.2.trans b4, ?_, ?_⟩
        · rw [if_pos (show k ≤ nL by omega), if_pos (show k + 1 ≤ nL by omega)]
          exact b2
        · rw [if_pos (show k ≤ nL by omega), car0 _ (by omega)]
          exact b5
        · rw [(aout s z).1]
          exact b6
  have l3 : ∀ s, nS < s → hN s = 0 := fun s hs => by
    rw [(bout s (fun a ha z => by have := (gb a (by omega)).2.1; omega)).2.1]
    exact iv_l3 h s hs
  have l4 : ∀ k, k < nL + 1 → (if k + 1 ≤ nL then E (k + 1) else E nL + m) - (if k ≤ nL then E k else E nL + m) ≤ 99 := fun k hk => by
    rw [if_pos (show k ≤ nL by omega)]
    by_cases e : k = nL
    · rw [e, if_neg (by omega)]
      omega
    · rw [if_pos (show k + 1 ≤ nL by omega)]
      exact iv_l4 h k (by omega)
  have E0 : (if 0 ≤ nL then E 0 else E nL + m) = 0 := by rw [if_pos (Nat.zero_le _)]; exact iv_E0 h
  exact ⟨z_cP,
    z_mP,
    z_lP,
    z_cR,
    z_mR,
    z_lR,
    z_cX,
    z_mX,
    z_lX,
    z_cC,
    z_mC,
    z_lC,
    z_cS,
    z_mS,
    z_lS,
    rfl,
    rfl,
    hL,
    rfl,
    rfl,
    hT,
    z_e2,
    z_e3,
    z_e4,
    z_e5,
    z_e6,
    up_e (iv_e7 h) _ _,
    z_e8,
    z_e9,
    z_e10,
    z_e12,
    z_e13,
    z_e14,
    z_e15,
    z_e16,
    rfl,
    z_e18,
    rfl,
    z_e20,
    rfl,
    rfl,
    z_v15,
    z_v16,
    tv,
    hv,
    z_v3,
    z_v5,
    z_v6,
    td,
    z_b1,
    z_d1,
    z_b13,
    z_b14,
    z_op,
    z_w8,
    z_sd,
    fun s a b hs => iv_w1 h s a b (s0 s hs).1,
    w2,
    z_w3,
    w4,
    z_w5,
    z_w6,
    z_w7,
    en,
    E0,
    l1,
    l2,
    l3,
    l4⟩
