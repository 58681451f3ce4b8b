theorem op_place {A B : Rows} {nP nR nX nC nS nL nT : Nat} {E : Nat → Nat} (h : Inv A B nP nR nX nC nS nL nT E)  : (if nP = 12 then -1 else nI nP : Int32) = (if nP = 12 then -1 else nI nP : Int32) ∧ Iv (if nP = 12 then A else (ua (ua A 0 (uz (A 0) 0 (nI (nP + 1)))) 1 (upd (A 1) nP 1))) (if nP = 12 then (ua B 0 (uz (B 0) 7 0)) else (ua B 0 (uz (uz (B 0) 7 0) 0 (nI (nP + 1))))) := by
  have hh := h
  obtain ⟨z_cP, z_mP, z_lP, z_cR, z_mR, z_lR, z_cX, z_mX, z_lX, z_cC, z_mC, z_lC, z_cS, z_mS, z_lS, z_cL, z_mL, z_lL, z_cT, z_mT, z_lT, z_e2, z_e3, z_e4, z_e5, z_e6, z_e7, z_e8, z_e9, z_e10, z_e12, z_e13, z_e14, z_e15, z_e16, z_e17, z_e18, z_e19, z_e20, z_e23, z_e24, z_v15, z_v16, z_v22, z_v25, z_v3, z_v5, z_v6, z_v19, z_b1, z_d1, z_b13, z_b14, z_op, z_w8, z_sd, z_w1, z_w2, z_w3, z_w4, z_w5, z_w6, z_w7, z_en, z_E0, z_l1, z_l2, z_l3, z_l4⟩ := hh
  refine ⟨rfl, ?_⟩
  by_cases c : nP = 12
  · rw [if_pos c, if_pos c]
    exact ⟨nP, nR, nX, nC, nS, nL, nT, E, h⟩
  · rw [if_neg c, if_neg c]
    have hl := iv_lP h
    have op_ : ∀ j, j < nP + 1 → B 1 j = b2 (decide (upd (A 1) nP 1 j = 0)) := fun j hj => by
      by_cases e : j = nP
      · rw [e, up_s, iv_w8 h nP (Nat.le_refl _)]
        rfl
      · rw [up_n e]
        exact iv_op h j (by omega)
    exact ⟨nP + 1, nR, nX, nC, nS, nL, nT, E, ⟨rfl,
      rfl,
      by omega,
      z_cR,
      z_mR,
      z_lR,
      z_cX,
      z_mX,
      z_lX,
      z_cC,
      z_mC,
      z_lC,
      z_cS,
      z_mS,
      z_lS,
      z_cL,
      z_mL,
      z_lL,
      z_cT,
      z_mT,
      z_lT,
      z_e2,
      z_e3,
      z_e4,
      z_e5,
      z_e6,
      z_e7,
      z_e8,
      z_e9,
      z_e10,
      z_e12,
      z_e13,
      z_e14,
      z_e15,
      z_e16,
      z_e17,
      z_e18,
      z_e19,
      z_e20,
      z_e23,
      z_e24,
      z_v15,
      z_v16,
      z_v22,
      z_v25,
      z_v3,
      z_v5,
      z_v6,
      z_v19,
      isB_up (iv_b1 h) isB_1,
      z_d1,
      z_b13,
      z_b14,
      fun j hj => op_ j hj,
      fun j hj => iv_w8 h j (by omega),
      z_sd,
      z_w1,
      z_w2,
      z_w3,
      z_w4,
      z_w5,
      fun r hr => Nat.lt_succ_of_lt (iv_w6 h r hr),
      z_w7,
      z_en,
      z_E0,
      z_l1,
      z_l2,
      z_l3,
      z_l4⟩⟩
theorem op_open {A B : Rows} {nP nR nX nC nS nL nT : Nat} {E : Nat → Nat} (h : Inv A B nP nR nX nC nS nL nT E) (x : Int32) (on : Bool) : (if hN (nI nP) x = true then A 1 x.toNatClampNeg else 0) = (if hN (nI nP) x = true then b2 (decide (B 1 x.toNatClampNeg = 0)) else 0) ∧ Iv (if hN (nI nP) x = true then (ua A 1 (upd (A 1) x.toNatClampNeg (b2 on))) else A) (if hN (nI nP) x = true then (ua (ua B 0 (uz (B 0) 7 0)) 1 (upd (B 1) x.toNatClampNeg (b2 (!on)))) else (ua B 0 (uz (B 0) 7 0))) := by
  have hh := h
  obtain ⟨z_cP, z_mP, z_lP, z_cR, z_mR, z_lR, z_cX, z_mX, z_lX, z_cC, z_mC, z_lC, z_cS, z_mS, z_lS, z_cL, z_mL, z_lL, z_cT, z_mT, z_lT, z_e2, z_e3, z_e4, z_e5, z_e6, z_e7, z_e8, z_e9, z_e10, z_e12, z_e13, z_e14, z_e15, z_e16, z_e17, z_e18, z_e19, z_e20, z_e23, z_e24, z_v15, z_v16, z_v22, z_v25, z_v3, z_v5, z_v6, z_v19, z_b1, z_d1, z_b13, z_b14, z_op, z_w8, z_sd, z_w1, z_w2, z_w3, z_w4, z_w5, z_w6, z_w7, z_en, z_E0, z_l1, z_l2, z_l3, z_l4⟩ := hh
  have hl := iv_lP h
  by_cases c : hN (nI nP) x = true
  · obtain ⟨p, hp, rfl⟩ := hN_of c (by omega)
    simp only [if_pos c, nI_clamp (show p < 2 ^ 31 by omega)]
    refine ⟨by rw [iv_op h p hp]; exact isB_c (iv_b1 h p), ?_⟩
    have o : ∀ j, j < nP → upd (B 1) p (b2 (!on)) j = b2 (decide (upd (A 1) p (b2 on) j = 0)) := fun j hj => by
      by_cases e : j = p
      · rw [e, up_s, up_s]
        cases on <;> rfl
      · rw [up_n e, up_n e]
        exact iv_op h j hj
    exact ⟨nP, nR, nX, nC, nS, nL, nT, E, ⟨z_cP,
      z_mP,
      z_lP,
      z_cR,
      z_mR,
      z_lR,
      z_cX,
      z_mX,
      z_lX,
      z_cC,
      z_mC,
      z_lC,
      z_cS,
      z_mS,
      z_lS,
      z_cL,
      z_mL,
      z_lL,
      z_cT,
      z_mT,
      z_lT,
      z_e2,
      z_e3,
      z_e4,
      z_e5,
      z_e6,
      z_e7,
      z_e8,
      z_e9,
      z_e10,
      z_e12,
      z_e13,
      z_e14,
      z_e15,
      z_e16,
      z_e17,
      z_e18,
      z_e19,
      z_e20,
      z_e23,
      z_e24,
      z_v15,
      z_v16,
      z_v22,
      z_v25,
      z_v3,
      z_v5,
      z_v6,
      z_v19,
      isB_up (iv_b1 h) (isB_b2 _),
      isB_up (iv_d1 h) (isB_b2 _),
      z_b13,
      z_b14,
      o,
      fun j hj => (up_n (show j ≠ p by omega)).trans (iv_w8 h j hj),
      z_sd,
      z_w1,
      z_w2,
      z_w3,
      z_w4,
      z_w5,
      z_w6,
      z_w7,
      z_en,
      z_E0,
      z_l1,
      z_l2,
      z_l3,
      z_l4⟩⟩
  · simp only [if_neg c]
    exact ⟨trivial, nP, nR, nX, nC, nS, nL, nT, E, h⟩
theorem op_route {A B : Rows} {nP nR nX nC nS nL nT : Nat} {E : Nat → Nat} (h : Inv A B nP nR nX nC nS nL nT E) (a1 a2 a3 a4 a5 : Int32) : (if (hN (nI nP) a1 && hN (nI nP) a2 && !decide (a1 = a2) && !decide (a3 < 1) && !decide (127 < a3) && !decide (a4 < 0) && decide (a4 ≤ 30) && !decide (a5 < 1) && decide (a5 ≤ 99) && !decide (nR = 40)) = true then nI nR else -1) = (if (hN (nI nP) a1 && hN (nI nP) a2 && !decide (a1 = a2) && !decide (a3 < 1) && !decide (127 < a3) && !decide (a4 < 0) && decide (a4 ≤ 30) && !decide (a5 < 1) && decide (a5 ≤ 99) && !decide (nR = 40)) = true then nI nR else -1) ∧ Iv (if (hN (nI nP) a1 && hN (nI nP) a2 && !decide (a1 = a2) && !decide (a3 < 1) && !decide (127 < a3) && !decide (a4 < 0) && decide (a4 ≤ 30) && !decide (a5 < 1) && decide (a5 ≤ 99) && !decide (nR = 40)) = true then (ua (ua (ua (ua (ua (ua (ua A 0 (uz (A 0) 1 (nI (nR + 1)))) 2 (upd (A 2) nR a1)) 3 (upd (A 3) nR a2)) 4 (upd (A 4) nR a3)) 5 (upd (A 5) nR a4)) 6 (upd (A 6) nR a5)) 7 (upd (A 7) nR (-1))) else A) (if (hN (nI nP) a1 && hN (nI nP) a2 && !decide (a1 = a2) && !decide (a3 < 1) && !decide (127 < a3) && !decide (a4 < 0) && decide (a4 ≤ 30) && !decide (a5 < 1) && decide (a5 ≤ 99) && !decide (nR = 40)) = true then (ua (ua (ua (ua (ua (ua (ua B 0 (uz (uz (B 0) 7 0) 1 (nI (nR + 1)))) 2 (upd (B 2) nR a1)) 3 (upd (B 3) nR a2)) 4 (upd (B 4) nR a3)) 5 (upd (B 5) nR a4)) 6 (upd (B 6) nR a5)) 7 (upd (B 7) nR (-1))) else (ua B 0 (uz (B 0) 7 0))) := by
  have hh := h
  obtain ⟨z_cP, z_mP, z_lP, z_cR, z_mR, z_lR, z_cX, z_mX, z_lX, z_cC, z_mC, z_lC, z_cS, z_mS, z_lS, z_cL, z_mL, z_lL, z_cT, z_mT, z_lT, z_e2, z_e3, z_e4, z_e5, z_e6, z_e7, z_e8, z_e9, z_e10, z_e12, z_e13, z_e14, z_e15, z_e16, z_e17, z_e18, z_e19, z_e20, z_e23, z_e24, z_v15, z_v16, z_v22, z_v25, z_v3, z_v5, z_v6, z_v19, z_b1, z_d1, z_b13, z_b14, z_op, z_w8, z_sd, z_w1, z_w2, z_w3, z_w4, z_w5, z_w6, z_w7, z_en, z_E0, z_l1, z_l2, z_l3, z_l4⟩ := hh
  refine ⟨rfl, ?_⟩
  by_cases c : (hN (nI nP) a1 && hN (nI nP) a2 && !decide (a1 = a2) && !decide (a3 < 1) && !decide (127 < a3) && !decide (a4 < 0) && decide (a4 ≤ 30) && !decide (a5 < 1) && decide (a5 ≤ 99) && !decide (nR = 40)) = true
  · rw [if_pos c, if_pos c]
    simp only [Bool.and_eq_true, Bool.not_eq_true', decide_eq_false_iff_not, decide_eq_true_eq] at c
    obtain ⟨⟨⟨⟨⟨⟨⟨⟨⟨q1, q2⟩, q3⟩, q4⟩, q5⟩, q6⟩, q7⟩, q8⟩, q9⟩, q10⟩ := c
    have hl := iv_lR h
    have hp := iv_lP h
    obtain ⟨p2, hp2, rfl⟩ := hN_of q2 (by omega)
    obtain ⟨p4, hp4, rfl⟩ := i3_lt 30 (by omega) q6 q7
    obtain ⟨p5, hp5, rfl⟩ := i3_lt (x := a5) 99 (by omega) (fun z => q8 (Int32.lt_trans z (by decide))) q9
    have v3 : ∀ j, vp_in (upd (A 3) nR (nI p2) j) 12 := up_in (iv_v3 h) (vp_in_nI (by omega) (by omega))
    have v5 : ∀ j, vp_in (upd (A 5) nR (nI p4) j) 31 := up_in (iv_v5 h) (vp_in_nI (by omega) (by omega))
    have v6 : ∀ j, vp_in (upd (A 6) nR (nI p5) j) 100 := up_in (iv_v6 h) (vp_in_nI (by omega) (by omega))
    have w1 : ∀ s, 1 ≤ s → s ≤ nS → A 17 s = 0 → A 11 (A 15 s).toNatClampNeg = upd (A 2) nR a1 (A 16 s).toNatClampNeg := fun s s1 s2 s3 => by
      rw [up_n (Nat.ne_of_lt (iv_w5 h s s1 s2))]
      exact iv_w1 h s s1 s2 s3
    have w6 : ∀ r, r < nR + 1 → (upd (A 3) nR (nI p2) r).toNatClampNeg < nP := fun r hr => by
      by_cases e : r = nR
      · rw [e, up_s, nI_clamp (by omega)]
        exact hp2
      · rw [up_n e]
        exact iv_w6 h r (by omega)
    exact ⟨nP, nR + 1, nX, nC, nS, nL, nT, E, ⟨z_cP,
      z_mP,
      z_lP,
      rfl,
      rfl,
      by omega,
      z_cX,
      z_mX,
      z_lX,
      z_cC,
      z_mC,
      z_lC,
      z_cS,
      z_mS,
      z_lS,
      z_cL,
      z_mL,
      z_lL,
      z_cT,
      z_mT,
      z_lT,
      up_e (iv_e2 h) _ _,
      up_e (iv_e3 h) _ _,
      up_e (iv_e4 h) _ _,
      up_e (iv_e5 h) _ _,
      up_e (iv_e6 h) _ _,
      up_e (iv_e7 h) _ _,
      z_e8,
      z_e9,
      z_e10,
      z_e12,
      z_e13,
      z_e14,
      z_e15,
      z_e16,
      z_e17,
      z_e18,
      z_e19,
      z_e20,
      z_e23,
      z_e24,
      z_v15,
      z_v16,
      z_v22,
      z_v25,
      v3,
      v5,
      v6,
      z_v19,
      z_b1,
      z_d1,
      z_b13,
      z_b14,
      z_op,
      z_w8,
      z_sd,
      w1,
      z_w2,
      z_w3,
      z_w4,
      fun s a b => Nat.lt_succ_of_lt (iv_w5 h s a b),
      w6,
      z_w7,
      z_en,
      z_E0,
      z_l1,
      z_l2,
      z_l3,
      z_l4⟩⟩
  · rw [if_neg c, if_neg c]
    exact ⟨nP, nR, nX, nC, nS, nL, nT, E, h⟩
theorem op_skip {A B : Rows} {nP nR nX nC nS nL nT : Nat} {E : Nat → Nat} (h : Inv A B nP nR nX nC nS nL nT E) (x d : Int32) (out : Bool) : (if (hN (nI nR) x && dC d) = true then (if out = true then b2 (!(decide (nX = 60) || !decide (x_find (A 8) (A 9) x d nX 0 = -1))) else b2 (!decide (x_find (A 8) (A 9) x d nX 0 = -1))) else 0) = (if (hN (nI nR) x && dC d) = true then (if out = true then b2 (!(decide (nX = 60) || !decide (x_find (B 8) (B 9) x d nX 0 = -1))) else b2 (!decide (x_find (B 8) (B 9) x d nX 0 = -1))) else 0) ∧ Iv (if (hN (nI nR) x && dC d) = true then (if out = true then (if (decide (nX = 60) || !decide (x_find (A 8) (A 9) x d nX 0 = -1)) = true then A else (ua (ua (ua A 0 (uz (A 0) 2 (nI (nX + 1)))) 8 (upd (A 8) nX x)) 9 (upd (A 9) nX d))) else (if x_find (A 8) (A 9) x d nX 0 = -1 then A else (ua (ua (ua A 0 (uz (A 0) 2 (nI (nX - 1)))) 8 (upd (A 8) (x_find (A 8) (A 9) x d nX 0).toNatClampNeg (A 8 (nX - 1)))) 9 (upd (A 9) (x_find (A 8) (A 9) x d nX 0).toNatClampNeg (A 9 (nX - 1)))))) else A) (if (hN (nI nR) x && dC d) = true then (if out = true then (if (!(decide (nX = 60) || !decide (x_find (B 8) (B 9) x d nX 0 = -1))) = true then (ua (ua (ua B 0 (uz (uz (B 0) 7 0) 2 (nI (nX + 1)))) 8 (upd (B 8) nX x)) 9 (upd (B 9) nX d)) else (ua B 0 (uz (B 0) 7 0))) else (if (!decide (x_find (B 8) (B 9) x d nX 0 = -1)) = true then (ua (ua (ua B 0 (uz (uz (B 0) 7 0) 2 (nI (nX - 1)))) 8 (upd (B 8) (x_find (B 8) (B 9) x d nX 0).toNatClampNeg (B 8 (nX - 1)))) 9 (upd (B 9) (x_find (B 8) (B 9) x d nX 0).toNatClampNeg (B 9 (nX - 1)))) else (ua B 0 (uz (B 0) 7 0)))) else (ua B 0 (uz (B 0) 7 0))) := by
  have hh := h
  obtain ⟨z_cP, z_mP, z_lP, z_cR, z_mR, z_lR, z_cX, z_mX, z_lX, z_cC, z_mC, z_lC, z_cS, z_mS, z_lS, z_cL, z_mL, z_lL, z_cT, z_mT, z_lT, z_e2, z_e3, z_e4, z_e5, z_e6, z_e7, z_e8, z_e9, z_e10, z_e12, z_e13, z_e14, z_e15, z_e16, z_e17, z_e18, z_e19, z_e20, z_e23, z_e24, z_v15, z_v16, z_v22, z_v25, z_v3, z_v5, z_v6, z_v19, z_b1, z_d1, z_b13, z_b14, z_op, z_w8, z_sd, z_w1, z_w2, z_w3, z_w4, z_w5, z_w6, z_w7, z_en, z_E0, z_l1, z_l2, z_l3, z_l4⟩ := hh
  have e8 := iv_e8 h
  have e9 := iv_e9 h
  rw [e8, e9]
  refine ⟨rfl, ?_⟩
  have hl := iv_lX h
  have keep : Iv A (ua B 0 (uz (B 0) 7 0)) := ⟨nP, nR, nX, nC, nS, nL, nT, E, h⟩
  by_cases c : (hN (nI nR) x && dC d) = true
  · rw [if_pos c, if_pos c]
    cases out with
    | true =>
      rw [if_pos rfl, if_pos rfl]
      cases c2 : (decide (nX = 60) || !decide (x_find (A 8) (A 9) x d nX 0 = -1)) with
      | true => exact keep
      | false =>
        have c3 : nX ≠ 60 := by
          simp only [Bool.or_eq_false_iff, decide_eq_false_iff_not] at c2
          exact c2.1
        exact ⟨nP, nR, nX + 1, nC, nS, nL, nT, E, ⟨z_cP,
      z_mP,
      z_lP,
      z_cR,
      z_mR,
      z_lR,
      rfl,
      rfl,
      by omega,
      z_cC,
      z_mC,
      z_lC,
      z_cS,
      z_mS,
      z_lS,
      z_cL,
      z_mL,
      z_lL,
      z_cT,
      z_mT,
      z_lT,
      z_e2,
      z_e3,
      z_e4,
      z_e5,
      z_e6,
      z_e7,
      rfl,
      rfl,
      z_e10,
      z_e12,
      z_e13,
      z_e14,
      z_e15,
      z_e16,
      z_e17,
      z_e18,
      z_e19,
      z_e20,
      z_e23,
      z_e24,
      z_v15,
      z_v16,
      z_v22,
      z_v25,
      z_v3,
      z_v5,
      z_v6,
      z_v19,
      z_b1,
      z_d1,
      z_b13,
      z_b14,
      z_op,
      z_w8,
      z_sd,
      z_w1,
      z_w2,
      z_w3,
      z_w4,
      z_w5,
      z_w6,
      z_w7,
      z_en,
      z_E0,
      z_l1,
      z_l2,
      z_l3,
      z_l4⟩⟩
    | false =>
      simp only [Bool.false_eq_true, if_false]
      by_cases c2 : x_find (A 8) (A 9) x d nX 0 = -1
      · rw [if_pos c2, if_neg (by simp [c2])]
        exact keep
      · rw [if_neg c2, if_pos (by simp [c2])]
        exact ⟨nP, nR, nX - 1, nC, nS, nL, nT, E, ⟨z_cP,
      z_mP,
      z_lP,
      z_cR,
      z_mR,
      z_lR,
      rfl,
      rfl,
      by omega,
      z_cC,
      z_mC,
      z_lC,
      z_cS,
      z_mS,
      z_lS,
      z_cL,
      z_mL,
      z_lL,
      z_cT,
      z_mT,
      z_lT,
      z_e2,
      z_e3,
      z_e4,
      z_e5,
      z_e6,
      z_e7,
      rfl,
      rfl,
      z_e10,
      z_e12,
      z_e13,
      z_e14,
      z_e15,
      z_e16,
      z_e17,
      z_e18,
      z_e19,
      z_e20,
      z_e23,
      z_e24,
      z_v15,
      z_v16,
      z_v22,
      z_v25,
      z_v3,
      z_v5,
      z_v6,
      z_v19,
      z_b1,
      z_d1,
      z_b13,
      z_b14,
      z_op,
      z_w8,
      z_sd,
      z_w1,
      z_w2,
      z_w3,
      z_w4,
      z_w5,
      z_w6,
      z_w7,
      z_en,
      z_E0,
      z_l1,
      z_l2,
      z_l3,
      z_l4⟩⟩
  · rw [if_neg c, if_neg c]
    exact keep
theorem op_copy {A B : Rows} {nP nR nX nC nS nL nT : Nat} {E : Nat → Nat} (h : Inv A B nP nR nX nC nS nL nT E) (x : Int32) : (if hN (nI nP) x = true then (if nC = 60 then 0 else nI (nC + 1)) else 0) = (if (hN (nI nP) x && !decide (nC = 60)) = true then nI (nC + 1) else 0) ∧ Iv (if hN (nI nP) x = true then (if nC = 60 then A else (ua (ua (ua A 0 (uz (A 0) 3 (nI (nC + 1)))) 10 (upd (A 10) (nC + 1) x)) 11 (upd (A 11) (nC + 1) x))) else A) (if (hN (nI nP) x && !decide (nC = 60)) = true then (ua (ua (ua B 0 (uz (uz (B 0) 7 0) 3 (nI (nC + 1)))) 10 (upd (B 10) (nC + 1) x)) 11 (upd (B 11) (nC + 1) x)) else (ua B 0 (uz (B 0) 7 0))) := by
  have hh := h
  obtain ⟨z_cP, z_mP, z_lP, z_cR, z_mR, z_lR, z_cX, z_mX, z_lX, z_cC, z_mC, z_lC, z_cS, z_mS, z_lS, z_cL, z_mL, z_lL, z_cT, z_mT, z_lT, z_e2, z_e3, z_e4, z_e5, z_e6, z_e7, z_e8, z_e9, z_e10, z_e12, z_e13, z_e14, z_e15, z_e16, z_e17, z_e18, z_e19, z_e20, z_e23, z_e24, z_v15, z_v16, z_v22, z_v25, z_v3, z_v5, z_v6, z_v19, z_b1, z_d1, z_b13, z_b14, z_op, z_w8, z_sd, z_w1, z_w2, z_w3, z_w4, z_w5, z_w6, z_w7, z_en, z_E0, z_l1, z_l2, z_l3, z_l4⟩ := hh
  have hl := iv_lC h
  by_cases c : hN (nI nP) x = true
  · by_cases c2 : nC = 60
    · rw [if_pos c, if_pos c2, if_neg (by simp [c2]), if_pos c, if_pos c2, if_neg (by simp [c2])]
      exact ⟨rfl, nP, nR, nX, nC, nS, nL, nT, E, h⟩
    · rw [if_pos c, if_neg c2, if_pos (by simp [c, c2]), if_pos c, if_neg c2, if_pos (by simp [c, c2])]
      refine ⟨rfl, ?_⟩
      have sd : ∀ k, 1 ≤ k → k ≤ nC + 1 → upd (B 11) (nC + 1) x k = if A 12 k = 0 then upd (A 11) (nC + 1) x k else -1 := fun k k1 k2 => by
        by_cases e : k = nC + 1
        · rw [e, up_s, up_s, if_pos (iv_w7 h (nC + 1) (by omega))]
        · rw [up_n e, up_n e]
          exact iv_sd h k k1 (by omega)
      have w1 : ∀ s, 1 ≤ s → s ≤ nS → A 17 s = 0 → upd (A 11) (nC + 1) x (A 15 s).toNatClampNeg = A 2 (A 16 s).toNatClampNeg := fun s s1 s2 s3 => by
        have := (iv_w3 h s s1 s2).2
        rw [up_n (by omega)]
        exact iv_w1 h s s1 s2 s3
      exact ⟨nP, nR, nX, nC + 1, nS, nL, nT, E, ⟨z_cP,
      z_mP,
      z_lP,
      z_cR,
      z_mR,
      z_lR,
      z_cX,
      z_mX,
      z_lX,
      rfl,
      rfl,
      by omega,
      z_cS,
      z_mS,
      z_lS,
      z_cL,
      z_mL,
      z_lL,
      z_cT,
      z_mT,
      z_lT,
      z_e2,
      z_e3,
      z_e4,
      z_e5,
      z_e6,
      z_e7,
      z_e8,
      z_e9,
      up_e (iv_e10 h) _ _,
      z_e12,
      z_e13,
      z_e14,
      z_e15,
      z_e16,
      z_e17,
      z_e18,
      z_e19,
      z_e20,
      z_e23,
      z_e24,
      z_v15,
      z_v16,
      z_v22,
      z_v25,
      z_v3,
      z_v5,
      z_v6,
      z_v19,
      z_b1,
      z_d1,
      z_b13,
      z_b14,
      z_op,
      z_w8,
      sd,
      w1,
      z_w2,
      fun s a b => ⟨(iv_w3 h s a b).1, Nat.le_succ_of_le (iv_w3 h s a b).2⟩,
      z_w4,
      z_w5,
      z_w6,
      fun k hk => iv_w7 h k (by omega),
      z_en,
      z_E0,
      z_l1,
      z_l2,
      z_l3,
      z_l4⟩⟩
  · rw [if_neg c, if_neg (by simp [c]), if_neg c, if_neg (by simp [c])]
    exact ⟨rfl, nP, nR, nX, nC, nS, nL, nT, E, h⟩
theorem op_priority {A B : Rows} {nP nR nX nC nS nL nT : Nat} {E : Nat → Nat} (h : Inv A B nP nR nX nC nS nL nT E) (x : Int32) (on : Bool) : (if h1 (nI nC) x = true then A 13 x.toNatClampNeg else 0) = (if h1 (nI nC) x = true then B 13 x.toNatClampNeg else 0) ∧ Iv (if h1 (nI nC) x = true then (ua A 13 (upd (A 13) x.toNatClampNeg (b2 on))) else A) (if h1 (nI nC) x = true then (ua (ua B 0 (uz (B 0) 7 0)) 13 (upd (B 13) x.toNatClampNeg (b2 on))) else (ua B 0 (uz (B 0) 7 0))) := by
  have hh := h
  obtain ⟨z_cP, z_mP, z_lP, z_cR, z_mR, z_lR, z_cX, z_mX, z_lX, z_cC, z_mC, z_lC, z_cS, z_mS, z_lS, z_cL, z_mL, z_lL, z_cT, z_mT, z_lT, z_e2, z_e3, z_e4, z_e5, z_e6, z_e7, z_e8, z_e9, z_e10, z_e12, z_e13, z_e14, z_e15, z_e16, z_e17, z_e18, z_e19, z_e20, z_e23, z_e24, z_v15, z_v16, z_v22, z_v25, z_v3, z_v5, z_v6, z_v19, z_b1, z_d1, z_b13, z_b14, z_op, z_w8, z_sd, z_w1, z_w2, z_w3, z_w4, z_w5, z_w6, z_w7, z_en, z_E0, z_l1, z_l2, z_l3, z_l4⟩ := hh
  have e := iv_e13 h
  rw [e]
  refine ⟨rfl, ?_⟩
  by_cases c : h1 (nI nC) x = true
  · rw [if_pos c, if_pos c]
    exact ⟨nP, nR, nX, nC, nS, nL, nT, E, ⟨z_cP,
      z_mP,
      z_lP,
      z_cR,
      z_mR,
      z_lR,
      z_cX,
      z_mX,
      z_lX,
      z_cC,
      z_mC,
      z_lC,
      z_cS,
      z_mS,
      z_lS,
      z_cL,
      z_mL,
      z_lL,
      z_cT,
      z_mT,
      z_lT,
      z_e2,
      z_e3,
      z_e4,
      z_e5,
      z_e6,
      z_e7,
      z_e8,
      z_e9,
      z_e10,
      z_e12,
      rfl,
      z_e14,
      z_e15,
      z_e16,
      z_e17,
      z_e18,
      z_e19,
      z_e20,
      z_e23,
      z_e24,
      z_v15,
      z_v16,
      z_v22,
      z_v25,
      z_v3,
      z_v5,
      z_v6,
      z_v19,
      z_b1,
      z_d1,
      isB_up (iv_b13 h) (isB_b2 _),
      z_b14,
      z_op,
      z_w8,
      z_sd,
      z_w1,
      z_w2,
      z_w3,
      z_w4,
      z_w5,
      z_w6,
      z_w7,
      z_en,
      z_E0,
      z_l1,
      z_l2,
      z_l3,
      z_l4⟩⟩
  · rw [if_neg c, if_neg c]
    exact ⟨nP, nR, nX, nC, nS, nL, nT, E, h⟩
theorem op_floats {A B : Rows} {nP nR nX nC nS nL nT : Nat} {E : Nat → Nat} (h : Inv A B nP nR nX nC nS nL nT E) (x : Int32) (on : Bool) : (if h1 (nI nC) x = true then A 14 x.toNatClampNeg else 0) = (if h1 (nI nC) x = true then B 14 x.toNatClampNeg else 0) ∧ Iv (if h1 (nI nC) x = true then (ua A 14 (upd (A 14) x.toNatClampNeg (b2 on))) else A) (if h1 (nI nC) x = true then (ua (ua B 0 (uz (B 0) 7 0)) 14 (upd (B 14) x.toNatClampNeg (b2 on))) else (ua B 0 (uz (B 0) 7 0))) := by
  have hh := h
  obtain ⟨z_cP, z_mP, z_lP, z_cR, z_mR, z_lR, z_cX, z_mX, z_lX, z_cC, z_mC, z_lC, z_cS, z_mS, z_lS, z_cL, z_mL, z_lL, z_cT, z_mT, z_lT, z_e2, z_e3, z_e4, z_e5, z_e6, z_e7, z_e8, z_e9, z_e10, z_e12, z_e13, z_e14, z_e15, z_e16, z_e17, z_e18, z_e19, z_e20, z_e23, z_e24, z_v15, z_v16, z_v22, z_v25, z_v3, z_v5, z_v6, z_v19, z_b1, z_d1, z_b13, z_b14, z_op, z_w8, z_sd, z_w1, z_w2, z_w3, z_w4, z_w5, z_w6, z_w7, z_en, z_E0, z_l1, z_l2, z_l3, z_l4⟩ := hh
  have e := iv_e14 h
  rw [e]
  refine ⟨rfl, ?_⟩
  by_cases c : h1 (nI nC) x = true
  · rw [if_pos c, if_pos c]
    exact ⟨nP, nR, nX, nC, nS, nL, nT, E, ⟨z_cP,
      z_mP,
      z_lP,
      z_cR,
      z_mR,
      z_lR,
      z_cX,
      z_mX,
      z_lX,
      z_cC,
      z_mC,
      z_lC,
      z_cS,
      z_mS,
      z_lS,
      z_cL,
      z_mL,
      z_lL,
      z_cT,
      z_mT,
      z_lT,
      z_e2,
      z_e3,
      z_e4,
      z_e5,
      z_e6,
      z_e7,
      z_e8,
      z_e9,
      z_e10,
      z_e12,
      z_e13,
      rfl,
      z_e15,
      z_e16,
      z_e17,
      z_e18,
      z_e19,
      z_e20,
      z_e23,
      z_e24,
      z_v15,
      z_v16,
      z_v22,
      z_v25,
      z_v3,
      z_v5,
      z_v6,
      z_v19,
      z_b1,
      z_d1,
      z_b13,
      isB_up (iv_b14 h) (isB_b2 _),
      z_op,
      z_w8,
      z_sd,
      z_w1,
      z_w2,
      z_w3,
      z_w4,
      z_w5,
      z_w6,
      z_w7,
      z_en,
      z_E0,
      z_l1,
      z_l2,
      z_l3,
      z_l4⟩⟩
  · rw [if_neg c, if_neg c]
    exact ⟨nP, nR, nX, nC, nS, nL, nT, E, h⟩
