theorem op_load {A B : Rows} {nP nR nX nC nS nL nT : Nat} {E : Nat → Nat} (h : Inv A B nP nR nX nC nS nL nT E) (x d : Int32) : ∃ (rm n tk : Nat) (w : Int32) (g : Nat → Nat), A 6 x.toNatClampNeg = nI rm ∧ B 6 x.toNatClampNeg = nI rm ∧ rm < 100 ∧ A 21 nL = nI (E nL) ∧ E nL + (quD A nS x d).1 ≤ 150 ∧ enm B (pDue B x d) (nS + 1) n g ∧ n ≤ 150 ∧ (tk = if B 1 (B 3 x.toNatClampNeg).toNatClampNeg = 0 then min n rm else 0) ∧ (w = if B 1 (B 3 x.toNatClampNeg).toNatClampNeg = 0 then 2 else 1) ∧ (s_load A nR nX nS nL nT (E nL) rm x d).1 = (s_loadM B nR nX nS nL nT n tk w g x d).1 ∧ Iv (s_load A nR nX nS nL nT (E nL) rm x d).2 (s_loadM B nR nX nS nL nT n tk w g x d).2 := by
  have hS := iv_lS h
  have hLL := iv_lL h
  obtain ⟨rm, hrm, erm⟩ := vp_in_of (iv_v6 h x.toNatClampNeg) (by omega)
  obtain ⟨g, hg, hf⟩ := x_qu_all (iv_b13 h) (pDue A x d) hS (A 25)
  have hv : ∀ j, vp_in ((quD A nS x d).2 j) 151 := x_qu_in nS 1 0 (A 25) (by omega) (iv_v25 h)
  have cap : E nL + (quD A nS x d).1 ≤ nS := iv_cap h (P := pDue A x d) (fun t ht => by
    simp only [pDue, Bool.and_eq_true, decide_eq_true_eq] at ht
    exact ht.1.1) hg
  have hg1 : enm A (pDue A x d) (nS + 1) (quD A nS x d).1 g := hg
  have hf1 : ∀ i, i < (quD A nS x d).1 → (quD A nS x d).2 i = nI (g i) := hf
  have hg2 : enm B (pDue B x d) (nS + 1) (quD A nS x d).1 g := by
    have e : pDue B x d = pDue A x d := by
      funext j
      unfold pDue
      rw [iv_e16 h, iv_e17 h, iv_e19 h]
    rw [e]
    exact ⟨hg1.1, fun a b h1 h2 => (ltB_c h _ _).trans (hg1.2.1 a b h1 h2), hg1.2.2⟩
  refine ⟨rm, (quD A nS x d).1, _, _, g, erm, (by rw [iv_e6 h]; exact erm), hrm, (iv_en h).1 nL (Nat.le_refl _), by omega, hg2, by omega, rfl, rfl, ?_⟩
  unfold s_load s_loadM
  have eo : okL B nR nX nL x d = okL A nR nX nL x d := by
    unfold okL
    rw [ruC_c (iv_e4 h) (iv_e8 h) (iv_e9 h), iv_e7 h]
  rw [eo]
  by_cases ok : okL A nR nX nL x d = true
  · rw [if_pos ok, if_pos ok]
    refine ⟨rfl, ?_⟩
    have ok2 := ok
    unfold okL at ok2
    simp only [Bool.and_eq_true, Bool.not_eq_true', decide_eq_false_iff_not, decide_eq_true_eq] at ok2
    obtain ⟨⟨⟨⟨q1, q2⟩, q3⟩, q4⟩, q5⟩ := ok2
    have hR := iv_lR h
    obtain ⟨r, hr, rfl⟩ := hN_of q1 (by omega)
    obtain ⟨t, ht, rfl⟩ := dC_of q2
    have hd : vp_in (nI t) 100000 := vp_in_nI ht (by omega)
    have hL : nL < 60 := by omega
    have kr := nI_clamp (show r < 2 ^ 31 by omega)
    rw [kr] at erm ⊢
    rw [iv_e3 h, iv_op h _ (iv_w6 h r hr)]
    have hT := iv_lT h
    generalize hq : quD A nS (nI r) (nI t) = Q at hg1 hf1 hv cap ⊢
    obtain ⟨n, f⟩ := Q
    have tc : ∀ (w : Int32) (k : Nat), x_te w f (n - k) k nT (A 23) (A 24) = x_te w (gI g) (n - k) k nT (A 23) (A 24) := fun w k => x_te_c (n - k) k nT (A 23) (A 24) (fun i h1 h2 => hf1 i (show i < n by omega))
    by_cases o : A 1 (A 3 r).toNatClampNeg = 0
    · have ob : ¬ b2 (decide (A 1 (A 3 r).toNatClampNeg = 0)) = 0 := by rw [decide_eq_true o]; decide
      rw [if_pos o, if_neg ob, if_neg ob, iv_e23 h, iv_e24 h]
      have e1 : A 21 nL = nI (E nL + 0) := (iv_en h).1 nL (Nat.le_refl _)
      rw [e1]
      have z := iv_load h (m := 0) (r := r) (T := (x_te 1 f (n - 0) 0 nT (A 23) (A 24)).1) (F3 := (x_te 1 f (n - 0) 0 nT (A 23) (A 24)).2.1) (F4 := (x_te 1 f (n - 0) 0 nT (A 23) (A 24)).2.2) hd hL hg1 hf1 hv (Nat.zero_le _) (by omega) (x_te_n _ _ _ _ _ hT)
      show Iv (ua (ua (ua (ua (ua (ua A 0 (uz (uz (uz (A 0) 5 (nI (nL + 1))) 7 (nI n)) 6 (nI (x_te 1 f (n - 0) 0 nT (A 23) (A 24)).1))) 7 (upd (A 7) r (nI t))) 21 (upd (A 21) (nL + 1) (nI (E nL + 0)))) 23 ((x_te 1 f (n - 0) 0 nT (A 23) (A 24)).2.1)) 24 ((x_te 1 f (n - 0) 0 nT (A 23) (A 24)).2.2)) 25 f) _
      rw [← tc 1 0]
      exact ⟨_, _, _, _, _, _, _, _, z⟩
    · have ob : b2 (decide (A 1 (A 3 r).toNatClampNeg = 0)) = 0 := by rw [decide_eq_false o]; rfl
      rw [if_neg o, if_pos ob, if_pos ob, iv_e23 h, iv_e24 h]
      have z := iv_load h (m := min n rm) (r := r) (T := (x_te 2 f (n - min n rm) (min n rm) nT (A 23) (A 24)).1) (F3 := (x_te 2 f (n - min n rm) (min n rm) nT (A 23) (A 24)).2.1) (F4 := (x_te 2 f (n - min n rm) (min n rm) nT (A 23) (A 24)).2.2) hd hL hg1 hf1 hv (Nat.min_le_left _ _) (by have := Nat.min_le_right n rm; omega) (x_te_n _ _ _ _ _ hT)
      rw [← x_ta_e (d := nI t) (f := f) (min n rm) 0 (E nL) (A 17) (A 19) (A 22)] at z
      rw [← tc 2 (min n rm)]
      exact ⟨_, _, _, _, _, _, _, _, z⟩
  · rw [if_neg ok, if_neg ok]
    exact ⟨rfl, nP, nR, nX, nC, nS, nL, nT, E, h⟩
theorem iv_0 : Inv (fun _ _ => 0) (fun _ _ => 0) 0 0 0 0 0 0 0 (fun _ => 0) := by
  have v : ∀ n, 0 < n → n < 2 ^ 31 → ∀ _j : Nat, vp_in 0 n := fun n h1 h2 _ => vp_0 h1 h2
  have b : ∀ _j : Nat, isB 0 := fun _ => ⟨false, rfl⟩
  exact ⟨rfl,
    rfl,
    Nat.zero_le _,
    rfl,
    rfl,
    Nat.zero_le _,
    rfl,
    rfl,
    Nat.zero_le _,
    rfl,
    rfl,
    Nat.zero_le _,
    rfl,
    rfl,
    Nat.zero_le _,
    rfl,
    rfl,
    Nat.zero_le _,
    rfl,
    rfl,
    Nat.zero_le _,
    rfl,
    rfl,
    rfl,
    rfl,
    rfl,
    rfl,
    rfl,
    rfl,
    rfl,
    rfl,
    rfl,
    rfl,
    rfl,
    rfl,
    rfl,
    rfl,
    rfl,
    rfl,
    rfl,
    rfl,
    v 61 (by omega) (by omega),
    v 40 (by omega) (by omega),
    v 151 (by omega) (by omega),
    v 151 (by omega) (by omega),
    v 12 (by omega) (by omega),
    v 31 (by omega) (by omega),
    v 100 (by omega) (by omega),
    v 100000 (by omega) (by omega),
    b,
    b,
    b,
    b,
    fun j hj => absurd hj (Nat.not_lt_zero _),
    fun _ _ => rfl,
    fun c h1 h2 => absurd h1 (by omega),
    fun c h1 h2 => absurd h1 (by omega),
    fun c h1 h2 => absurd h1 (by omega),
    fun c h1 h2 => absurd h1 (by omega),
    fun _ _ => rfl,
    fun c h1 h2 => absurd h1 (by omega),
    fun j hj => absurd hj (Nat.not_lt_zero _),
    fun _ _ => rfl,
    ⟨fun _ _ => rfl, fun _ _ => Nat.le_refl _, Nat.zero_le _⟩,
    rfl,
    fun k i hk => absurd hk (Nat.not_lt_zero _),
    fun _ => Or.inl rfl,
    fun _ _ => rfl,
    fun k hk => absurd hk (Nat.not_lt_zero _)⟩
