theorem iv_bS {A B : Rows} {nP nR nX nC nS nL nT : Nat} {E : Nat → Nat} (h : Inv A B nP nR nX nC nS nL nT E) {c : Nat} (c1 : 1 ≤ c) (c2 : c ≤ nC) (hc : A 12 c = 0) (y d : Int32) : bS B nR nX (nI c) y d = bS A nR nX (nI c) y d := by
  have hl := iv_lC h
  unfold bS eS
  have hj := joC_c (iv_e2 h) (iv_e3 h)
  have hf := x_fst_c (n := nX) (ruC_c (iv_e4 h) (iv_e8 h) (iv_e9 h) nX)
  rw [x_qk_c hj hf (iv_e5 h), iv_e13 h, nI_clamp (show c < 2 ^ 31 by omega), iv_sd h c c1 c2, if_pos hc]
theorem iv_okS {A B : Rows} {nP nR nX nC nS nL nT : Nat} {E : Nat → Nat} (h : Inv A B nP nR nX nC nS nL nT E) (x y d : Int32) : okS B nP nC nS x y d = okS A nP nC nS x y d := by
  have hl := iv_lC h
  unfold okS
  cases hc : h1 (nI nC) x with
  | false => simp
  | true =>
    obtain ⟨c, c1, c2, rfl⟩ := h1_k hc (by omega)
    rw [nI_clamp (show c < 2 ^ 31 by omega), iv_e12 h]
    by_cases e : A 12 c = 0
    · rw [iv_sd h c c1 c2, if_pos e]
    · simp [e]
theorem op_send {A B : Rows} {nP nR nX nC nS nL nT : Nat} {E : Nat → Nat} (h : Inv A B nP nR nX nC nS nL nT E) (x y d : Int32) : (s_send A nP nR nX nC nS x y d).1 = (s_sendM B nP nR nX nC nS x y d).1 ∧ Iv ((s_send A nP nR nX nC nS x y d).2) ((s_sendM B nP nR nX nC nS x y d).2) := by
  have hh := h
  obtain ⟨z_cP, z_mP, z_lP, z_cR, z_mR, z_lR, z_cX, z_mX, z_lX, z_cC, z_mC, z_lC, z_cS, z_mS, z_lS, z_cL, z_mL, z_lL, z_cT, z_mT, z_lT, z_e2, z_e3, z_e4, z_e5, z_e6, z_e7, z_e8, z_e9, z_e10, z_e12, z_e13, z_e14, z_e15, z_e16, z_e17, z_e18, z_e19, z_e20, z_e23, z_e24, z_v15, z_v16, z_v22, z_v25, z_v3, z_v5, z_v6, z_v19, z_b1, z_d1, z_b13, z_b14, z_op, z_w8, z_sd, z_w1, z_w2, z_w3, z_w4, z_w5, z_w6, z_w7, z_en, z_E0, z_l1, z_l2, z_l3, z_l4⟩ := hh
  have hlC := iv_lC h
  have hlP := iv_lP h
  have hlS := iv_lS h
  have hlR := iv_lR h
  unfold s_send s_sendM
  rw [iv_okS h]
  by_cases ok : okS A nP nC nS x y d = true
  · rw [if_pos ok, if_pos ok]
    have ok2 := ok
    unfold okS at ok2
    simp only [Bool.and_eq_true, Bool.not_eq_true', decide_eq_false_iff_not, decide_eq_true_eq] at ok2
    obtain ⟨⟨⟨⟨⟨q1, q2⟩, q3⟩, q4⟩, q5⟩, q6⟩ := ok2
    obtain ⟨c, c1, c2, rfl⟩ := h1_k q1 (by omega)
    obtain ⟨p, hp, rfl⟩ := hN_of q2 (by omega)
    have kc := nI_clamp (show c < 2 ^ 31 by omega)
    rw [kc] at q4
    rw [nI_clamp (show p < 2 ^ 31 by omega), iv_op h p hp]
    by_cases o : A 1 p = 0
    · rw [if_pos o, if_pos (by simp [o, b2])]
      exact ⟨rfl, nP, nR, nX, nC, nS, nL, nT, E, h⟩
    · have ob : b2 (decide (A 1 p = 0)) = 0 := by rw [decide_eq_false o]; rfl
      rw [if_neg o, if_neg (show ¬ ¬ b2 (decide (A 1 p = 0)) = 0 from fun z => z ob)]
      rw [iv_bS h c1 c2 q4]
      have e9 : x_fst B nX (bS A nR nX (nI c) (nI p) d) (100000 - eS B (nI c) d) (eS B (nI c) d) = x_fst A nX (bS A nR nX (nI c) (nI p) d) (100000 - eS A (nI c) d) (eS A (nI c) d) := by
        unfold eS
        rw [x_fst_c (n := nX) (ruC_c (iv_e4 h) (iv_e8 h) (iv_e9 h) nX), iv_e13 h]
      rw [e9]
      by_cases b : bS A nR nX (nI c) (nI p) d = -1
      · rw [if_pos b, if_pos b]
        exact ⟨rfl, nP, nR, nX, nC, nS, nL, nT, E, h⟩
      · rw [if_neg b, if_neg b]
        refine ⟨rfl, ?_⟩
        have r1 := (x_qk_j (A := A) (n := nX) (a := A 11 (nI c).toNatClampNeg) (b := nI p) (e := eS A (nI c) d) nR 0 (-1) 0 (Or.inl rfl)).resolve_left b
        obtain ⟨r, hr, er, hj, hf⟩ := r1
        have er2 : bS A nR nX (nI c) (nI p) d = nI r := er
        rw [er2]
        rw [kc] at hj ⊢
        obtain ⟨t, ht1, ht2, et⟩ := (x_fst_in (A := A) (n := nX) (r := nI r) (100000 - eS A (nI c) d) (eS A (nI c) d)).resolve_left hf
        rw [et]
        have e17 : upd (A 17) (nS + 1) 0 = A 17 := by
          have := us_ (A 17) (nS + 1)
          rw [iv_w4 h (nS + 1) (by omega)] at this
          exact this
        rw [e17]
        have j2 : A 2 r = A 11 c := by
          unfold joC at hj
          rw [nI_clamp (show r < 2 ^ 31 by omega)] at hj
          simp only [Bool.and_eq_true, decide_eq_true_eq] at hj
          exact hj.1
        have v15 : ∀ j, vp_in (upd (A 15) (nS + 1) (nI c) j) 61 := up_in (iv_v15 h) (vp_in_nI (by omega) (by omega))
        have v16 : ∀ j, vp_in (upd (A 16) (nS + 1) (nI r) j) 40 := up_in (iv_v16 h) (vp_in_nI (by omega) (by omega))
        have v19 : ∀ j, vp_in (upd (A 19) (nS + 1) (nI t) j) 100000 := up_in (iv_v19 h) (vp_in_nI (by omega) (by omega))
        have sd : ∀ k, 1 ≤ k → k ≤ nC → upd (B 11) c (-1) k = if upd (A 12) c (nI (nS + 1)) k = 0 then A 11 k else -1 := fun k k1 k2 => by
          by_cases e : k = c
          · rw [e, up_s, up_s, if_neg (nI_ne0 (by omega) (by omega))]
          · rw [up_n e, up_n e]
            exact iv_sd h k k1 k2
        have w1 : ∀ s, 1 ≤ s → s ≤ nS + 1 → A 17 s = 0 → A 11 (upd (A 15) (nS + 1) (nI c) s).toNatClampNeg = A 2 (upd (A 16) (nS + 1) (nI r) s).toNatClampNeg := fun s s1 s2 s3 => by
          by_cases e : s = nS + 1
          · rw [e, up_s, up_s, kc, nI_clamp (show r < 2 ^ 31 by omega), j2]
          · rw [up_n e, up_n e]
            exact iv_w1 h s s1 (by omega) s3
        have w2 : ∀ s, 1 ≤ s → s ≤ nS + 1 → (A 17 s = 0 ∨ A 17 s = 1 ∨ A 17 s = 3) → upd (A 12) c (nI (nS + 1)) (upd (A 15) (nS + 1) (nI c) s).toNatClampNeg = nI s := fun s s1 s2 s3 => by
          by_cases e : s = nS + 1
          · rw [e, up_s, kc, up_s]
          · rw [up_n e]
            have hs := iv_w2 h s s1 (by omega) s3
            rw [up_n (fun z => by rw [z, q4] at hs; exact nI_ne0 (by omega) (by omega) hs.symm)]
            exact hs
        have w3 : ∀ s, 1 ≤ s → s ≤ nS + 1 → 1 ≤ (upd (A 15) (nS + 1) (nI c) s).toNatClampNeg ∧ (upd (A 15) (nS + 1) (nI c) s).toNatClampNeg ≤ nC := fun s s1 s2 => by
          by_cases e : s = nS + 1
          · rw [e, up_s, kc]
            exact ⟨c1, c2⟩
          · rw [up_n e]
            exact iv_w3 h s s1 (by omega)
        have w5 : ∀ s, 1 ≤ s → s ≤ nS + 1 → (upd (A 16) (nS + 1) (nI r) s).toNatClampNeg < nR := fun s s1 s2 => by
          by_cases e : s = nS + 1
          · rw [e, up_s, nI_clamp (show r < 2 ^ 31 by omega)]
            omega
          · rw [up_n e]
            exact iv_w5 h s s1 (by omega)
        have w7 : ∀ k, nC < k → upd (A 12) c (nI (nS + 1)) k = 0 := fun k hk => by
          rw [up_n (by omega)]
          exact iv_w7 h k hk
        exact ⟨nP, nR, nX, nC, nS + 1, nL, nT, E, ⟨z_cP,
      z_mP,
      z_lP,
      z_cR,
      z_mR,
      z_lR,
      z_cX,
      z_mX,
      z_lX,
      z_cC,
      z_mC,
      z_lC,
      rfl,
      rfl,
      by omega,
      z_cL,
      z_mL,
      z_lL,
      z_cT,
      z_mT,
      z_lT,
      z_e2,
      z_e3,
      z_e4,
      z_e5,
      z_e6,
      z_e7,
      z_e8,
      z_e9,
      z_e10,
      up_e (iv_e12 h) _ _,
      z_e13,
      z_e14,
      up_e (iv_e15 h) _ _,
      up_e (iv_e16 h) _ _,
      z_e17,
      up_e (iv_e18 h) _ _,
      up_e (iv_e19 h) _ _,
      up_e (iv_e20 h) _ _,
      z_e23,
      z_e24,
      v15,
      v16,
      z_v22,
      z_v25,
      z_v3,
      z_v5,
      z_v6,
      v19,
      z_b1,
      z_d1,
      z_b13,
      z_b14,
      z_op,
      z_w8,
      sd,
      w1,
      w2,
      w3,
      fun s hs => iv_w4 h s (by omega),
      w5,
      z_w6,
      w7,
      z_en,
      z_E0,
      z_l1,
      z_l2,
      fun s hs => iv_l3 h s (by omega),
      z_l4⟩⟩
  · rw [if_neg ok, if_neg ok]
    exact ⟨rfl, nP, nR, nX, nC, nS, nL, nT, E, h⟩
theorem op_back {A B : Rows} {nP nR nX nC nS nL nT : Nat} {E : Nat → Nat} (h : Inv A B nP nR nX nC nS nL nT E) (x : Int32) : (s_back A nS x).1 = (s_backM B nS x).1 ∧ Iv ((s_back A nS x).2) ((s_backM B nS x).2) := by
  have hh := h
  obtain ⟨z_cP, z_mP, z_lP, z_cR, z_mR, z_lR, z_cX, z_mX, z_lX, z_cC, z_mC, z_lC, z_cS, z_mS, z_lS, z_cL, z_mL, z_lL, z_cT, z_mT, z_lT, z_e2, z_e3, z_e4, z_e5, z_e6, z_e7, z_e8, z_e9, z_e10, z_e12, z_e13, z_e14, z_e15, z_e16, z_e17, z_e18, z_e19, z_e20, z_e23, z_e24, z_v15, z_v16, z_v22, z_v25, z_v3, z_v5, z_v6, z_v19, z_b1, z_d1, z_b13, z_b14, z_op, z_w8, z_sd, z_w1, z_w2, z_w3, z_w4, z_w5, z_w6, z_w7, z_en, z_E0, z_l1, z_l2, z_l3, z_l4⟩ := hh
  have hlC := iv_lC h
  have hlS := iv_lS h
  unfold s_back s_backM
  rw [iv_e17 h, iv_e15 h, iv_e16 h, iv_e2 h, iv_e12 h]
  by_cases ok : (h1 (nI nS) x && decide (A 17 x.toNatClampNeg = 0)) = true
  · rw [if_pos ok, if_pos ok]
    refine ⟨rfl, ?_⟩
    simp only [Bool.and_eq_true, decide_eq_true_eq] at ok
    obtain ⟨s, s1, s2, rfl⟩ := h1_k ok.1 (by omega)
    have q := ok.2
    rw [nI_clamp (show s < 2 ^ 31 by omega)] at q ⊢
    have hw := iv_w3 h s s1 s2
    have h12 := iv_w2 h s s1 s2 (Or.inl q)
    have hstand := iv_w1 h s s1 s2 q
    generalize hc : (A 15 s).toNatClampNeg = c at hw h12 hstand ⊢
    have other : ∀ t, 1 ≤ t → t ≤ nS → t ≠ s → (A 17 t = 0 ∨ A 17 t = 1 ∨ A 17 t = 3) → (A 15 t).toNatClampNeg ≠ c := fun t t1 t2 t3 t4 z => by
      have := iv_w2 h t t1 t2 t4
      rw [z, h12] at this
      exact t3 (nI_eqD this (by omega) (by omega)).symm
    have sd : ∀ k, 1 ≤ k → k ≤ nC → upd (B 11) c (A 2 (A 16 s).toNatClampNeg) k = if upd (A 12) c 0 k = 0 then A 11 k else -1 := fun k k1 k2 => by
      by_cases e : k = c
      · rw [e, up_s, up_s, if_pos rfl, hstand]
      · rw [up_n e, up_n e]
        exact iv_sd h k k1 k2
    have w1 : ∀ t, 1 ≤ t → t ≤ nS → upd (A 17) s 5 t = 0 → A 11 (A 15 t).toNatClampNeg = A 2 (A 16 t).toNatClampNeg := fun t t1 t2 t3 => by
      by_cases e : t = s
      · rw [e, up_s] at t3
        exact absurd t3 (by decide)
      · rw [up_n e] at t3
        exact iv_w1 h t t1 t2 t3
    have w2 : ∀ t, 1 ≤ t → t ≤ nS → (upd (A 17) s 5 t = 0 ∨ upd (A 17) s 5 t = 1 ∨ upd (A 17) s 5 t = 3) → upd (A 12) c 0 (A 15 t).toNatClampNeg = nI t := fun t t1 t2 t3 => by
      by_cases e : t = s
      · rw [e, up_s] at t3
        exact absurd t3 (by decide)
      · rw [up_n e] at t3
        rw [up_n (other t t1 t2 e t3)]
        exact iv_w2 h t t1 t2 t3
    have w4 : ∀ t, nS < t → upd (A 17) s 5 t = 0 := fun t ht => by
      rw [up_n (by omega)]
      exact iv_w4 h t ht
    have w7 : ∀ k, nC < k → upd (A 12) c 0 k = 0 := fun k hk => by
      rw [up_n (by omega)]
      exact iv_w7 h k hk
    have l2 : ∀ t, B 21 t = 0 ∨ ∃ k i, k < nL ∧ E k + i < E (k + 1) ∧ B 21 t = nI (k + 1) ∧ B 22 t = nI i ∧ A 22 (E k + i) = nI t ∧ ¬ upd (A 17) s 5 t = 0 := fun t => by
      refine (iv_l2 h t).imp id (fun ⟨k, i, a1, a2, a3, a4, a5, a6⟩ => ⟨k, i, a1, a2, a3, a4, a5, ?_⟩)
      by_cases e : t = s
      · rw [e, up_s]
        decide
      · rw [up_n e]
        exact a6
    exact ⟨nP, nR, nX, nC, nS, nL, nT, E, ⟨z_cP,
      z_mP,
      z_lP,
      z_cR,
      z_mR,
      z_lR,
      z_cX,
      z_mX,
      z_lX,
      z_cC,
      z_mC,
      z_lC,
      z_cS,
      z_mS,
      z_lS,
      z_cL,
      z_mL,
      z_lL,
      z_cT,
      z_mT,
      z_lT,
      z_e2,
      z_e3,
      z_e4,
      z_e5,
      z_e6,
      z_e7,
      z_e8,
      z_e9,
      z_e10,
      rfl,
      z_e13,
      z_e14,
      z_e15,
      z_e16,
      rfl,
      z_e18,
      z_e19,
      z_e20,
      z_e23,
      z_e24,
      z_v15,
      z_v16,
      z_v22,
      z_v25,
      z_v3,
      z_v5,
      z_v6,
      z_v19,
      z_b1,
      z_d1,
      z_b13,
      z_b14,
      z_op,
      z_w8,
      sd,
      w1,
      w2,
      z_w3,
      w4,
      z_w5,
      z_w6,
      w7,
      z_en,
      z_E0,
      z_l1,
      l2,
      z_l3,
      z_l4⟩⟩
  · rw [if_neg ok, if_neg ok]
    exact ⟨rfl, nP, nR, nX, nC, nS, nL, nT, E, h⟩
theorem op_arrive {A B : Rows} {nP nR nX nC nS nL nT : Nat} {E : Nat → Nat} (h : Inv A B nP nR nX nC nS nL nT E) (x y d : Int32) : (s_arr A nP nS x y d).1 = (s_arrM B nP nS x y d).1 ∧ Iv ((s_arr A nP nS x y d).2) ((s_arrM B nP nS x y d).2) := by
  have hh := h
  obtain ⟨z_cP, z_mP, z_lP, z_cR, z_mR, z_lR, z_cX, z_mX, z_lX, z_cC, z_mC, z_lC, z_cS, z_mS, z_lS, z_cL, z_mL, z_lL, z_cT, z_mT, z_lT, z_e2, z_e3, z_e4, z_e5, z_e6, z_e7, z_e8, z_e9, z_e10, z_e12, z_e13, z_e14, z_e15, z_e16, z_e17, z_e18, z_e19, z_e20, z_e23, z_e24, z_v15, z_v16, z_v22, z_v25, z_v3, z_v5, z_v6, z_v19, z_b1, z_d1, z_b13, z_b14, z_op, z_w8, z_sd, z_w1, z_w2, z_w3, z_w4, z_w5, z_w6, z_w7, z_en, z_E0, z_l1, z_l2, z_l3, z_l4⟩ := hh
  have hlC := iv_lC h
  have hlS := iv_lS h
  unfold s_arr s_arrM
  have eo : okA B nP nS x y d = okA A nP nS x y d := by
    unfold okA uwC
    rw [iv_e17 h, iv_e19 h]
  rw [eo, iv_e15 h, iv_e16 h, iv_e3 h, iv_e14 h]
  by_cases ok : okA A nP nS x y d = true
  · rw [if_pos ok, if_pos ok]
    unfold okA uwC at ok
    simp only [Bool.and_eq_true, Bool.or_eq_true, decide_eq_true_eq] at ok
    obtain ⟨⟨⟨⟨q1, q2⟩, q3⟩, q⟩, q5⟩ := ok
    obtain ⟨s, s1, s2, rfl⟩ := h1_k q1 (by omega)
    rw [nI_clamp (show s < 2 ^ 31 by omega)] at q ⊢
    have hw := iv_w3 h s s1 s2
    have h12 := iv_w2 h s s1 s2 (Or.inr q)
    generalize hc : (A 15 s).toNatClampNeg = c at hw h12 ⊢
    have other : ∀ t, 1 ≤ t → t ≤ nS → t ≠ s → (A 17 t = 0 ∨ A 17 t = 1 ∨ A 17 t = 3) → (A 15 t).toNatClampNeg ≠ c := fun t t1 t2 t3 t4 z => by
      have := iv_w2 h t t1 t2 t4
      rw [z, h12] at this
      exact t3 (nI_eqD this (by omega) (by omega)).symm
    have sd : ∀ k, 1 ≤ k → k ≤ nC → upd (B 11) c y k = if upd (A 12) c 0 k = 0 then upd (A 11) c y k else -1 := fun k k1 k2 => by
      by_cases e : k = c
      · rw [e, up_s, up_s, up_s, if_pos rfl]
      · rw [up_n e, up_n e, up_n e]
        exact iv_sd h k k1 k2
    have w1 : ∀ z : Int32, (¬ z = 0 ∧ ¬ z = 1 ∧ ¬ z = 3) → ∀ t, 1 ≤ t → t ≤ nS → upd (A 17) s z t = 0 → upd (A 11) c y (A 15 t).toNatClampNeg = A 2 (A 16 t).toNatClampNeg := fun z hz t t1 t2 t3 => by
      by_cases e : t = s
      · rw [e, up_s] at t3
        exact absurd t3 hz.1
      · rw [up_n e] at t3
        rw [up_n (other t t1 t2 e (Or.inl t3))]
        exact iv_w1 h t t1 t2 t3
    have w2 : ∀ z : Int32, (¬ z = 0 ∧ ¬ z = 1 ∧ ¬ z = 3) → ∀ t, 1 ≤ t → t ≤ nS → (upd (A 17) s z t = 0 ∨ upd (A 17) s z t = 1 ∨ upd (A 17) s z t = 3) → upd (A 12) c 0 (A 15 t).toNatClampNeg = nI t := fun z hz t t1 t2 t3 => by
      by_cases e : t = s
      · rw [e, up_s] at t3
        rcases t3 with t3 | t3 | t3
        · exact absurd t3 hz.1
        · exact absurd t3 hz.2.1
        · exact absurd t3 hz.2.2
      · rw [up_n e] at t3
        rw [up_n (other t t1 t2 e t3)]
        exact iv_w2 h t t1 t2 t3
    have w4 : ∀ z : Int32, ∀ t, nS < t → upd (A 17) s z t = 0 := fun z t ht => by
      rw [up_n (by omega)]
      exact iv_w4 h t ht
    have w7 : ∀ k, nC < k → upd (A 12) c 0 k = 0 := fun k hk => by
      rw [up_n (by omega)]
      exact iv_w7 h k hk
    have l2 : ∀ z : Int32, (¬ z = 0 ∧ ¬ z = 1 ∧ ¬ z = 3) → ∀ t, B 21 t = 0 ∨ ∃ k i, k < nL ∧ E k + i < E (k + 1) ∧ B 21 t = nI (k + 1) ∧ B 22 t = nI i ∧ A 22 (E k + i) = nI t ∧ ¬ upd (A 17) s z t = 0 := fun z hz t => by
      refine (iv_l2 h t).imp id (fun ⟨k, i, a1, a2, a3, a4, a5, a6⟩ => ⟨k, i, a1, a2, a3, a4, a5, ?_⟩)
      by_cases e : t = s
      · rw [e, up_s]
        exact hz.1
      · rw [up_n e]
        exact a6
    by_cases c1 : A 3 (A 16 s).toNatClampNeg = y
    · rw [if_pos c1, if_pos c1]
      by_cases c2 : A 14 c = 0
      · rw [if_pos c2, if_pos c2]
        exact ⟨rfl, ⟨nP, nR, nX, nC, nS, nL, nT, E, ⟨z_cP,
      z_mP,
      z_lP,
      z_cR,
      z_mR,
      z_lR,
      z_cX,
      z_mX,
      z_lX,
      z_cC,
      z_mC,
      z_lC,
      z_cS,
      z_mS,
      z_lS,
      z_cL,
      z_mL,
      z_lL,
      z_cT,
      z_mT,
      z_lT,
      z_e2,
      z_e3,
      z_e4,
      z_e5,
      z_e6,
      z_e7,
      z_e8,
      z_e9,
      (us_ (B 10) c).trans z_e10,
      up_e (iv_e12 h) _ _,
      z_e13,
      z_e14,
      z_e15,
      z_e16,
      up_e (iv_e17 h) _ _,
      z_e18,
      z_e19,
      up_e (iv_e20 h) _ _,
      z_e23,
      z_e24,
      z_v15,
      z_v16,
      z_v22,
      z_v25,
      z_v3,
      z_v5,
      z_v6,
      z_v19,
      z_b1,
      z_d1,
      z_b13,
      z_b14,
      z_op,
      z_w8,
      sd,
      w1 2 (by decide),
      w2 2 (by decide),
      z_w3,
      w4 2,
      z_w5,
      z_w6,
      w7,
      z_en,
      z_E0,
      z_l1,
      l2 2 (by decide),
      z_l3,
      z_l4⟩⟩⟩
      · rw [if_neg c2, if_neg c2]
        exact ⟨rfl, ⟨nP, nR, nX, nC, nS, nL, nT, E, ⟨z_cP,
      z_mP,
      z_lP,
      z_cR,
      z_mR,
      z_lR,
      z_cX,
      z_mX,
      z_lX,
      z_cC,
      z_mC,
      z_lC,
      z_cS,
      z_mS,
      z_lS,
      z_cL,
      z_mL,
      z_lL,
      z_cT,
      z_mT,
      z_lT,
      z_e2,
      z_e3,
      z_e4,
      z_e5,
      z_e6,
      z_e7,
      z_e8,
      z_e9,
      up_e (iv_e10 h) _ _,
      up_e (iv_e12 h) _ _,
      z_e13,
      z_e14,
      z_e15,
      z_e16,
      up_e (iv_e17 h) _ _,
      z_e18,
      z_e19,
      up_e (iv_e20 h) _ _,
      z_e23,
      z_e24,
      z_v15,
      z_v16,
      z_v22,
      z_v25,
      z_v3,
      z_v5,
      z_v6,
      z_v19,
      z_b1,
      z_d1,
      z_b13,
      z_b14,
      z_op,
      z_w8,
      sd,
      w1 2 (by decide),
      w2 2 (by decide),
      z_w3,
      w4 2,
      z_w5,
      z_w6,
      w7,
      z_en,
      z_E0,
      z_l1,
      l2 2 (by decide),
      z_l3,
      z_l4⟩⟩⟩
    · rw [if_neg c1, if_neg c1]
      exact ⟨rfl, ⟨nP, nR, nX, nC, nS, nL, nT, E, ⟨z_cP,
      z_mP,
      z_lP,
      z_cR,
      z_mR,
      z_lR,
      z_cX,
      z_mX,
      z_lX,
      z_cC,
      z_mC,
      z_lC,
      z_cS,
      z_mS,
      z_lS,
      z_cL,
      z_mL,
      z_lL,
      z_cT,
      z_mT,
      z_lT,
      z_e2,
      z_e3,
      z_e4,
      z_e5,
      z_e6,
      z_e7,
      z_e8,
      z_e9,
      (us_ (B 10) c).trans z_e10,
      up_e (iv_e12 h) _ _,
      z_e13,
      z_e14,
      z_e15,
      z_e16,
      up_e (iv_e17 h) _ _,
      z_e18,
      z_e19,
      up_e (iv_e20 h) _ _,
      z_e23,
      z_e24,
      z_v15,
      z_v16,
      z_v22,
      z_v25,
      z_v3,
      z_v5,
      z_v6,
      z_v19,
      z_b1,
      z_d1,
      z_b13,
      z_b14,
      z_op,
      z_w8,
      sd,
      w1 4 (by decide),
      w2 4 (by decide),
      z_w3,
      w4 4,
      z_w5,
      z_w6,
      w7,
      z_en,
      z_E0,
      z_l1,
      l2 4 (by decide),
      z_l3,
      z_l4⟩⟩⟩
  · rw [if_neg ok, if_neg ok]
    exact ⟨rfl, nP, nR, nX, nC, nS, nL, nT, E, h⟩
theorem i3_d {x : Int32} {n : Nat} (h : vp_in x n) (hn : n < 2 ^ 31) : 0 ≤ x.toInt ∧ x.toInt < n := vp_in_iff.mp h
theorem lost_c {d g u : Int32} (hd : vp_in d 100000) (hg : vp_in g 100000) (hu : vp_in u 31) : 14 < d - (g + u) ↔ g + u < d - 14 := by
  obtain ⟨a, ha, rfl⟩ := vp_in_of hd (by omega)
  obtain ⟨b, hb, rfl⟩ := vp_in_of hg (by omega)
  obtain ⟨c, hc, rfl⟩ := vp_in_of hu (by omega)
  have e14 : (14 : Int32) = nI 14 := rfl
  rw [nI_add, e14, Int32.lt_iff_toInt_lt, Int32.lt_iff_toInt_lt, pk_sub_toInt (by omega) (by omega), pk_sub_toInt (by omega) (by omega), nI_toInt (by omega), nI_toInt (by omega)]
  omega
theorem x_los_c {A B : Rows} {d : Int32} (hu : ∀ j, duC B (nI j) = duC A (nI j)) (hd : ∀ j, 14 < d - duC A (nI j) ↔ duC A (nI j) < d - 14) : ∀ k j c f, x_losM B d k j c f = x_lost A d k j c f
  | 0, _, _, _ => rfl
  | k + 1, j, c, f => by
    unfold x_losM x_lost
    simp only [hu, hd, x_los_c hu hd k]
theorem x_lost_f {A : Rows} {d : Int32} {t : Nat} : ∀ k j c f, (x_lost A d k j c f).2 t = f t ∨ (f t = 1 ∧ (x_lost A d k j c f).2 t = 3)
  | 0, _, _, _ => Or.inl rfl
  | k + 1, j, c, f => by
    unfold x_lost
    split
    · rename_i hc
      rcases x_lost_f (A := A) (d := d) (t := t) k (j + 1) (c + 1) (upd f j 3) with e | e
      · by_cases z : t = j
        · rw [z, up_s] at e
          exact Or.inr ⟨by rw [z]; exact hc.1, by rw [z]; exact e⟩
        · rw [up_n z] at e
          exact Or.inl e
      · by_cases z : t = j
        · rw [z, up_s] at e
          exact absurd e.1 (by decide)
        · rw [up_n z] at e
          exact Or.inr e
    · exact x_lost_f k (j + 1) c f
theorem op_lost {A B : Rows} {nP nR nX nC nS nL nT : Nat} {E : Nat → Nat} (h : Inv A B nP nR nX nC nS nL nT E) (d : Int32) : (if dC d = true then (x_lost A d nS 1 0 (A 17)).1 else -1) = (if dC d = true then (x_losM B d nS 1 0 (B 17)).1 else -1) ∧ Iv (if dC d = true then ua A 17 (x_lost A d nS 1 0 (A 17)).2 else A) (if dC d = true then ua (T0 B) 17 (x_losM B d nS 1 0 (B 17)).2 else T0 B) := by
  have hh := h
  obtain ⟨z_cP, z_mP, z_lP, z_cR, z_mR, z_lR, z_cX, z_mX, z_lX, z_cC, z_mC, z_lC, z_cS, z_mS, z_lS, z_cL, z_mL, z_lL, z_cT, z_mT, z_lT, z_e2, z_e3, z_e4, z_e5, z_e6, z_e7, z_e8, z_e9, z_e10, z_e12, z_e13, z_e14, z_e15, z_e16, z_e17, z_e18, z_e19, z_e20, z_e23, z_e24, z_v15, z_v16, z_v22, z_v25, z_v3, z_v5, z_v6, z_v19, z_b1, z_d1, z_b13, z_b14, z_op, z_w8, z_sd, z_w1, z_w2, z_w3, z_w4, z_w5, z_w6, z_w7, z_en, z_E0, z_l1, z_l2, z_l3, z_l4⟩ := hh
  by_cases c : dC d = true
  · simp only [if_pos c]
    obtain ⟨t, ht, rfl⟩ := dC_of c
    have e := x_los_c (A := A) (B := B) (d := nI t) (fun j => by unfold duC; rw [iv_e19 h, iv_e5 h, iv_e16 h]) (fun j => lost_c (vp_in_nI ht (by omega)) (iv_v19 h _) (iv_v5 h _)) nS 1 0 (A 17)
    rw [iv_e17 h, e]
    refine ⟨rfl, ?_⟩
    have hf : ∀ s, (x_lost A (nI t) nS 1 0 (A 17)).2 s = A 17 s ∨ (A 17 s = 1 ∧ (x_lost A (nI t) nS 1 0 (A 17)).2 s = 3) := fun s => x_lost_f nS 1 0 (A 17)
    generalize (x_lost A (nI t) nS 1 0 (A 17)).2 = f at hf ⊢
    have f0 : ∀ s, f s = 0 → A 17 s = 0 := fun s hs => by
      rcases hf s with z | z
      · rw [← z]; exact hs
      · rw [z.2] at hs; exact absurd hs (by decide)
    have w2 : ∀ s, 1 ≤ s → s ≤ nS → (f s = 0 ∨ f s = 1 ∨ f s = 3) → A 12 (A 15 s).toNatClampNeg = nI s := fun s s1 s2 s3 => by
      rcases hf s with z | z
      · rw [z] at s3
        exact iv_w2 h s s1 s2 s3
      · exact iv_w2 h s s1 s2 (Or.inr (Or.inl z.1))
    have w4 : ∀ s, nS < s → f s = 0 := fun s hs => by
      have q := iv_w4 h s hs
      rcases hf s with z | z
      · rw [z]; exact q
      · rw [q] at z; exact absurd z.1 (by decide)
    have l2 : ∀ t, B 21 t = 0 ∨ ∃ k i, k < nL ∧ E k + i < E (k + 1) ∧ B 21 t = nI (k + 1) ∧ B 22 t = nI i ∧ A 22 (E k + i) = nI t ∧ ¬ f t = 0 := fun t =>
      (iv_l2 h t).imp id (fun ⟨k, i, a1, a2, a3, a4, a5, a6⟩ => ⟨k, i, a1, a2, a3, a4, a5, fun z => a6 (f0 t z)⟩)
    exact ⟨nP, nR, nX, nC, nS, nL, nT, E, ⟨z_cP,
      z_mP,
      z_lP,
      z_cR,
      z_mR,
      z_lR,
      z_cX,
      z_mX,
      z_lX,
      z_cC,
      z_mC,
      z_lC,
      z_cS,
      z_mS,
      z_lS,
      z_cL,
      z_mL,
      z_lL,
      z_cT,
      z_mT,
      z_lT,
      z_e2,
      z_e3,
      z_e4,
      z_e5,
      z_e6,
      z_e7,
      z_e8,
      z_e9,
      z_e10,
      z_e12,
      z_e13,
      z_e14,
      z_e15,
      z_e16,
      rfl,
      z_e18,
      z_e19,
      z_e20,
      z_e23,
      z_e24,
      z_v15,
      z_v16,
      z_v22,
      z_v25,
      z_v3,
      z_v5,
      z_v6,
      z_v19,
      z_b1,
      z_d1,
      z_b13,
      z_b14,
      z_op,
      z_w8,
      z_sd,
      fun s a b hs => iv_w1 h s a b (f0 s hs),
      w2,
      z_w3,
      w4,
      z_w5,
      z_w6,
      z_w7,
      z_en,
      z_E0,
      z_l1,
      l2,
      z_l3,
      z_l4⟩⟩
  · simp only [if_neg c]
    exact ⟨trivial, nP, nR, nX, nC, nS, nL, nT, E, h⟩
theorem pBin_c {A B : Rows} {nP nR nX nC nS nL nT : Nat} {E : Nat → Nat} (h : Inv A B nP nR nX nC nS nL nT E) (a b : Int32) : pBin B a b = pBin A a b := by
  funext j
  unfold pBin
  rw [iv_e17 h, iv_e16 h, joC_c (iv_e2 h) (iv_e3 h)]
theorem ltB_c {A B : Rows} {nP nR nX nC nS nL nT : Nat} {E : Nat → Nat} (h : Inv A B nP nR nX nC nS nL nT E) (i j : Nat) : ltB B i j = ltB A i j := by
  unfold ltB
  rw [bfI_c (iv_e13 h) (iv_e15 h) (iv_e19 h)]
theorem x_cnt_c {A B : Rows} (hb : ∀ x y, bfI B x y = bfI A x y) (P : Nat → Bool) (s : Nat) : ∀ k t c, x_cnt B P s k t c = x_cnt A P s k t c
  | 0, _, _ => rfl
  | k + 1, t, c => by
    unfold x_cnt
    rw [hb, x_cnt_c hb P s k]
theorem x_binM_c {A B : Rows} (hb : ∀ x y, bfI B x y = bfI A x y) (P : Nat → Bool) (n : Nat) (i : Int32) : ∀ k s, x_binM B P n i k s = x_binM A P n i k s
  | 0, _ => rfl
  | k + 1, s => by
    unfold x_binM
    rw [x_cnt_c hb, x_binM_c hb P n i k]
theorem op_bin {A B : Rows} {nP nR nX nC nS nL nT : Nat} {E : Nat → Nat} (h : Inv A B nP nR nX nC nS nL nT E) (a b i : Int32) : (if (!decide (i < 0) && !decide (nI (x_qu A (pBin A a b) nS 1 0 (A 25)).1 ≤ i)) = true then (x_qu A (pBin A a b) nS 1 0 (A 25)).2 i.toNatClampNeg else 0) = (if i < 0 then 0 else x_binM B (pBin B a b) nS i nS 1) ∧ Iv ((ua (ua A 0 (uz (A 0) 7 (nI (x_qu A (pBin A a b) nS 1 0 (A 25)).1))) 25 ((x_qu A (pBin A a b) nS 1 0 (A 25)).2))) (T0 B) := by
  have hh := h
  obtain ⟨z_cP, z_mP, z_lP, z_cR, z_mR, z_lR, z_cX, z_mX, z_lX, z_cC, z_mC, z_lC, z_cS, z_mS, z_lS, z_cL, z_mL, z_lL, z_cT, z_mT, z_lT, z_e2, z_e3, z_e4, z_e5, z_e6, z_e7, z_e8, z_e9, z_e10, z_e12, z_e13, z_e14, z_e15, z_e16, z_e17, z_e18, z_e19, z_e20, z_e23, z_e24, z_v15, z_v16, z_v22, z_v25, z_v3, z_v5, z_v6, z_v19, z_b1, z_d1, z_b13, z_b14, z_op, z_w8, z_sd, z_w1, z_w2, z_w3, z_w4, z_w5, z_w6, z_w7, z_en, z_E0, z_l1, z_l2, z_l3, z_l4⟩ := hh
  have hlS := iv_lS h
  refine ⟨?_, ?_⟩
  · rw [pBin_c h, x_binM_c (bfI_c (iv_e13 h) (iv_e15 h) (iv_e19 h))]
    exact bin_eq (iv_b13 h) (pBin A a b) hlS (A 25) i
  · have v25 : ∀ j, vp_in ((x_qu A (pBin A a b) nS 1 0 (A 25)).2 j) 151 := x_qu_in nS 1 0 (A 25) (by omega) (iv_v25 h)
    exact ⟨nP, nR, nX, nC, nS, nL, nT, E, ⟨z_cP,
      z_mP,
      z_lP,
      z_cR,
      z_mR,
      z_lR,
      z_cX,
      z_mX,
      z_lX,
      z_cC,
      z_mC,
      z_lC,
      z_cS,
      z_mS,
      z_lS,
      z_cL,
      z_mL,
      z_lL,
      z_cT,
      z_mT,
      z_lT,
      z_e2,
      z_e3,
      z_e4,
      z_e5,
      z_e6,
      z_e7,
      z_e8,
      z_e9,
      z_e10,
      z_e12,
      z_e13,
      z_e14,
      z_e15,
      z_e16,
      z_e17,
      z_e18,
      z_e19,
      z_e20,
      z_e23,
      z_e24,
      z_v15,
      z_v16,
      z_v22,
      v25,
      z_v3,
      z_v5,
      z_v6,
      z_v19,
      z_b1,
      z_d1,
      z_b13,
      z_b14,
      z_op,
      z_w8,
      z_sd,
      z_w1,
      z_w2,
      z_w3,
      z_w4,
      z_w5,
      z_w6,
      z_w7,
      z_en,
      z_E0,
      z_l1,
      z_l2,
      z_l3,
      z_l4⟩⟩
theorem op_slip {A B : Rows} {nP nR nX nC nS nL nT : Nat} {E : Nat → Nat} (h : Inv A B nP nR nX nC nS nL nT E) (x w : Int32) : o_slip A nS x w = o_slip B nS x w := by
  unfold o_slip duC
  rw [iv_e15 h, iv_e16 h, iv_e17 h, iv_e18 h, iv_e19 h, iv_e20 h, iv_e5 h]
theorem op_told {A B : Rows} {nP nR nX nC nS nL nT : Nat} {E : Nat → Nat} (h : Inv A B nP nR nX nC nS nL nT E) (x w : Int32) : o_told A nT x w = o_told B nT x w := by
  unfold o_told
  rw [iv_e23 h, iv_e24 h]
theorem op_where {A B : Rows} {nP nR nX nC nS nL nT : Nat} {E : Nat → Nat} (h : Inv A B nP nR nX nC nS nL nT E) (x w : Int32) : o_wh A nC x w = o_whM B nC x w := by
  have hl := iv_lC h
  unfold o_wh o_whM
  by_cases c : h1 (nI nC) x = true
  · rw [if_pos c, if_pos c]
    obtain ⟨k, k1, k2, rfl⟩ := h1_k c (by omega)
    rw [nI_clamp (show k < 2 ^ 31 by omega), iv_sd h k k1 k2, iv_e10 h, iv_e12 h]
  · rw [if_neg c, if_neg c]
theorem op_st {A B : Rows} {nP nR nX nC nS nL nT : Nat} {E : Nat → Nat} (h : Inv A B nP nR nX nC nS nL nT E) (a b : Int32) : x_st B a b nS 1 0 0 (-1) = x_st A a b nS 1 0 0 (-1) := x_st_c (iv_e16 h) (iv_e17 h) (iv_e18 h) (iv_e20 h) (joC_c (iv_e2 h) (iv_e3 h)) a b nS 1 0 0 (-1)
