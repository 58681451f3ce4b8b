set_option maxRecDepth 100000 in
set_option maxHeartbeats 4000000 in
theorem c_mo_load (l : Launch) (D : va_G) (cI cZ : ClassId) (q : Nat → Nat) (A : Rows) (nR : Nat) (nX : Nat) (nS : Nat) (nL : Nat) (nT : Nat) (n tk rm : Nat) (w : Int32) (g : Nat → Nat) (x d : Int32) (hnR : A 0 1 = nI nR) (hlR : nR ≤ 40) (hnX : A 0 2 = nI nX) (hlX : nX ≤ 60) (hnS : A 0 4 = nI nS) (hlS : nS ≤ 150) (hnL : A 0 5 = nI nL) (hlL : nL ≤ 60) (hnT : A 0 6 = nI nT) (hlT : nT ≤ 100) (hrg : rgM A) (hrm : A 6 x.toNatClampNeg = nI rm) (hrm9 : rm < 100) (hg : enm A (pDue A x d) (nS + 1) n g) (hn : n ≤ 150) (htk : tk = if A 1 (A 3 x.toNatClampNeg).toNatClampNeg = 0 then min n rm else 0) (hw : w = if A 1 (A 3 x.toNatClampNeg).toNatClampNeg = 0 then 2 else 1) : mt_I l D cls_ [(cI, .int), (cZ, .boolean)] nst_ y_mo_load (Cond.code y_mo_load b_mo_load 8 (some .int) :: gt_) (rmd 2) [.ref (q 0), .int x, .int d] (mw cI cZ q A) (fun r u => r = (s_loadM A nR nX nS nL nT n tk w g x d).1 ∧ u = mw cI cZ q (s_loadM A nR nX nS nL nT n tk w g x d).2) := by
  refine mt_I_of (by decide) (Nat.le_of_ble_eq_true rfl) ?_
  intro p e s m below meth c AA X hr hlk
  refine jj_lve (lv' := [(0, .ref (q 0)), (1, .int x), (2, .int d)]) rfl ?_
  have hg150 : ∀ a, a < n → 1 ≤ g a ∧ g a ≤ 150 := fun a ha => ⟨(hg.1 a ha).1, by have := (hg.1 a ha).2.1; omega⟩
  have hgne : ∀ a b, a < b → b < n → g a ≠ g b := fun a b p9 q9 e9 => by have z9 := hg.2.1 a b p9 q9; have y9 := hg150 a (by omega); rw [← e9, ltB_irr hrg.2.2.2.2.1 (by omega)] at z9; exact absurd z9 (by decide)
  have htkn : tk ≤ n := by rw [htk]; split; exact Nat.min_le_left _ _; exact Nat.zero_le _
  refine jj_aload_n X d_mo_load_0 1 rfl 0 rfl ?_
  refine jj_iconst (v := 0) X d_mo_load_1 2 rfl (by decide) ?_
  refine jj_put (ty := .int) (ws' := mw cI cZ q ((ua A 0 (uz (A 0) 7 0)))) X d_mo_load_2 5 rfl i_mo t_mo t_mo_ok n_mo 0 f_mo_38 0 rfl rfl (by decide) rfl rfl (by decide +kernel) rfl rfl (Nat.le_of_ble_eq_true rfl) rfl ?_
  refine jj_aload_n X d_mo_load_5 6 rfl 0 rfl ?_
  refine jj_iload_n X d_mo_load_6 7 rfl 1 rfl ?_
  refine jj_callV0 (st := []) X d_mo_load_7 10 rfl (c_mo_isRoute l D cI cZ q ((ua A 0 (uz (A 0) 7 0))) nR x hnR hlR) g_mo_62 ⟨rfl, w_mo_isRoute⟩ ⟨(Nat.le_of_ble_eq_true rfl), (Nat.le_of_ble_eq_true rfl)⟩ rfl 0 rfl rfl rfl (Nat.le_of_ble_eq_true rfl) ⟨rfl, rfl⟩ ⟨Nat.zero_le _, Nat.zero_le _⟩ (fun r u hu => ?_)
  obtain ⟨rfl, rfl⟩ := hu
  refine jj_if_eq X d_mo_load_10 53 13 (by decide) rfl (fun c10 => ?_) (fun c10 => ?_)
  · have c10 := b2_f c10
    refine jj_iconst (v := 0) X d_mo_load_53 54 rfl (by decide) ?_
    exact jj_iret X hr hlk d_mo_load_54 (⟨by simp [s_loadM, okL, c10], by simp [s_loadM, okL, c10]; rfl⟩)
  · have c10 := b2_t c10
    obtain ⟨r0, hr0, rfl⟩ := hN_of c10 (by omega)
    rw [nI_clamp (show r0 < 2 ^ 31 by omega)] at hrm htk hw
    refine jj_iload_n X d_mo_load_13 14 rfl 2 rfl ?_
    refine jj_callS0 (st := []) X d_mo_load_14 17 rfl (c_mo_isDay l D cI cZ q ((ua A 0 (uz (A 0) 7 0))) d) g_mo_65 ⟨rfl, w_mo_isDay⟩ ⟨(Nat.le_of_ble_eq_true rfl), (Nat.le_of_ble_eq_true rfl)⟩ rfl rfl (Nat.le_of_ble_eq_true rfl) ⟨rfl, rfl⟩ ⟨Nat.zero_le _, Nat.zero_le _⟩ (fun r u hu => ?_)
    obtain ⟨rfl, rfl⟩ := hu
    refine jj_if_eq X d_mo_load_17 53 20 (by decide) rfl (fun c17 => ?_) (fun c17 => ?_)
    · have c17 := b2_f c17
      refine jj_iconst (v := 0) X d_mo_load_53 54 rfl (by decide) ?_
      exact jj_iret X hr hlk d_mo_load_54 (⟨by simp [s_loadM, okL, nI_clamp (show r0 < 2 ^ 31 by omega), c10, c17], by simp [s_loadM, okL, nI_clamp (show r0 < 2 ^ 31 by omega), c10, c17]; rfl⟩)
    · have c17 := b2_t c17
      refine jj_aload_n X d_mo_load_20 21 rfl 0 rfl ?_
      refine jj_iload_n X d_mo_load_21 22 rfl 1 rfl ?_
      refine jj_iload_n X d_mo_load_22 23 rfl 2 rfl ?_
      refine jj_callV0 (st := []) X d_mo_load_23 26 rfl (c_mo_runs l D cI cZ q ((ua A 0 (uz (A 0) 7 0))) nX r0 d hnX hlX (by omega)) g_mo_75 ⟨rfl, w_mo_runs⟩ ⟨(Nat.le_of_ble_eq_true rfl), (Nat.le_of_ble_eq_true rfl)⟩ rfl 0 rfl rfl rfl (Nat.le_of_ble_eq_true rfl) ⟨rfl, rfl⟩ ⟨Nat.zero_le _, Nat.zero_le _⟩ (fun r u hu => ?_)
      obtain ⟨rfl, rfl⟩ := hu
      refine jj_if_eq X d_mo_load_26 53 29 (by decide) rfl (fun c26 => ?_) (fun c26 => ?_)
      · have c26 := b2_f c26
        have c26 : ruC A nX (nI r0) d = false := c26
        refine jj_iconst (v := 0) X d_mo_load_53 54 rfl (by decide) ?_
        exact jj_iret X hr hlk d_mo_load_54 (⟨by simp [s_loadM, okL, nI_clamp (show r0 < 2 ^ 31 by omega), c10, c17, c26], by simp [s_loadM, okL, nI_clamp (show r0 < 2 ^ 31 by omega), c10, c17, c26]; rfl⟩)
      · have c26 := b2_t c26
        have c26 : ruC A nX (nI r0) d = true := c26
        refine jj_aload_n X d_mo_load_29 30 rfl 0 rfl ?_
        refine jj_get (v := .ref (q 2)) X d_mo_load_30 33 rfl i_mo 4 f_mo_13 0 rfl rfl (by decide) rfl rfl ?_
        refine jj_bipush (v := 6) X d_mo_load_33 35 rfl (by decide) ?_
        refine jj_iload_n X d_mo_load_35 36 rfl 1 rfl ?_
        refine jj_imul X d_mo_load_36 37 rfl ?_
        refine jj_topv (y := nI (6 * r0)) (pk_mul 6 _) ?_
        refine jj_iconst (v := 5) X d_mo_load_37 38 rfl (by decide) ?_
        refine jj_iadd X d_mo_load_38 39 rfl ?_
        refine jj_topv (y := nI (6 * r0 + 5)) (nI_add _ 5) ?_
        refine jj_iald (v := A 7 r0) X d_mo_load_39 40 rfl 2 0 rfl rfl (vp_in_nI (by omega) (by omega)) ((ar_cl (by omega)).trans (mxr6_5 _)) ?_
        refine jj_iload_n X d_mo_load_40 41 rfl 2 rfl ?_
        refine jj_icmp_ge X d_mo_load_41 53 44 (by decide) rfl (fun c41 => ?_) (fun c41 => ?_)
        · refine jj_iconst (v := 0) X d_mo_load_53 54 rfl (by decide) ?_
          exact jj_iret X hr hlk d_mo_load_54 (⟨by simp [s_loadM, okL, nI_clamp (show r0 < 2 ^ 31 by omega), c10, c17, c26, c41], by simp [s_loadM, okL, nI_clamp (show r0 < 2 ^ 31 by omega), c10, c17, c26, c41]; rfl⟩)
        · refine jj_aload_n X d_mo_load_44 45 rfl 0 rfl ?_
          refine jj_get (v := .int (nI nL)) X d_mo_load_45 48 rfl i_mo 14 f_mo_92 0 rfl rfl (by decide) rfl (by rw [← hnL]; rfl) ?_
          refine jj_bipush (v := 60) X d_mo_load_48 50 rfl (by decide) ?_
          refine jj_icmp_ne X d_mo_load_50 55 53 (by decide) rfl (fun c50 => ?_) (fun c50 => ?_)
          · have hL : nL ≠ 60 := nI_neD c50
            refine jj_aload_n X d_mo_load_55 56 rfl 0 rfl ?_
            refine jj_dup X d_mo_load_56 57 rfl rfl ?_
            refine jj_get (v := .int (nI nL)) X d_mo_load_57 60 rfl i_mo 14 f_mo_92 0 rfl rfl (by decide) rfl (by rw [← hnL]; rfl) ?_
            refine jj_iconst (v := 1) X d_mo_load_60 61 rfl (by decide) ?_
            refine jj_iadd X d_mo_load_61 62 rfl ?_
            refine jj_topv (y := nI (nL + 1)) (nI_1 _) ?_
            refine jj_put (ty := .int) (ws' := mw cI cZ q ((ua A 0 (uz (uz (A 0) 7 0) 5 (nI (nL + 1)))))) X d_mo_load_62 65 rfl i_mo t_mo t_mo_ok n_mo 14 f_mo_92 0 rfl rfl (by decide) rfl rfl (by decide +kernel) rfl rfl (Nat.le_of_ble_eq_true rfl) rfl ?_
            refine jj_aload_n X d_mo_load_65 66 rfl 0 rfl ?_
            refine jj_get (v := .ref (q 2)) X d_mo_load_66 69 rfl i_mo 4 f_mo_13 0 rfl rfl (by decide) rfl rfl ?_
            refine jj_bipush (v := 6) X d_mo_load_69 71 rfl (by decide) ?_
            refine jj_iload_n X d_mo_load_71 72 rfl 1 rfl ?_
            refine jj_imul X d_mo_load_72 73 rfl ?_
            refine jj_topv (y := nI (6 * r0)) (pk_mul 6 _) ?_
            refine jj_iconst (v := 5) X d_mo_load_73 74 rfl (by decide) ?_
            refine jj_iadd X d_mo_load_74 75 rfl ?_
            refine jj_topv (y := nI (6 * r0 + 5)) (nI_add _ 5) ?_
            refine jj_iload_n X d_mo_load_75 76 rfl 2 rfl ?_
            refine jj_iast (ws' := mw cI cZ q ((ua (ua A 0 (uz (uz (A 0) 7 0) 5 (nI (nL + 1)))) 7 (upd (A 7) r0 d)))) X d_mo_load_76 77 rfl 2 0 rfl rfl (vp_in_nI (by omega) (by omega)) (by rw [nI_clamp (by omega)]; exact congrArg (fun z => List.set (mw cI cZ q ((ua A 0 (uz (uz (A 0) 7 0) 5 (nI (nL + 1)))))) 2 (q 2, .inl (cI, 240, .inl z))) (mxu6_5 _ _)) ?_
            refine jj_iconst (v := 0) X d_mo_load_77 78 rfl (by decide) ?_
            refine jj_istore_n (lv' := [(0, .ref (q 0)), (1, .int (nI r0)), (2, .int d), (3, .int 0)]) X d_mo_load_78 79 rfl (by decide) rfl rfl ?_
            refine jj_iconst (v := 1) X d_mo_load_79 80 rfl (by decide) ?_
            refine jj_istore (lv' := [(0, .ref (q 0)), (1, .int (nI r0)), (2, .int d), (3, .int 0), (4, .int 1)]) X d_mo_load_80 82 rfl (by decide) rfl rfl ?_
            refine jj_iconst (v := 0) X d_mo_load_82 83 rfl (by decide) ?_
            refine jj_istore (lv' := [(0, .ref (q 0)), (1, .int (nI r0)), (2, .int d), (3, .int 0), (4, .int 1), (5, .int 0)]) X d_mo_load_83 85 rfl (by decide) rfl rfl ?_
            refine jj_loop (fun ((i, c0, n1, s1, h1, p1, g1, h2) : Nat × Nat × Nat × (Nat → Int32) × (Nat → Int32) × (Nat → Int32) × (Nat → Int32) × (Nat → Int32)) => i ≤ n ∧ c0 = min i tk ∧ n1 ≤ 100 ∧ (∀ a, i ≤ a → a < n → s1 (g a) = 0) ∧ (∀ s, s1 s = 0 → A 17 s = 0) ∧ x_pm (nL + 1) g (tk - i) i s1 h1 p1 = (x_pm (nL + 1) g tk 0 (A 17) (A 21) (A 22)) ∧ x_te w (gI g) (n - max i tk) (max i tk) n1 g1 h2 = (x_te w (gI g) (n - tk) tk nT (A 23) (A 24))) (fun ((i, c0, n1, s1, h1, p1, g1, h2) : Nat × Nat × Nat × (Nat → Int32) × (Nat → Int32) × (Nat → Int32) × (Nat → Int32) × (Nat → Int32)) => n - i) (fun ((i, c0, n1, s1, h1, p1, g1, h2) : Nat × Nat × Nat × (Nat → Int32) × (Nat → Int32) × (Nat → Int32) × (Nat → Int32) × (Nat → Int32)) => [(0, .ref (q 0)), (1, .int (nI r0)), (2, .int d), (3, .int (nI c0)), (4, .int 1), (5, .int (nI (lst g i)))]) (fun ((i, c0, n1, s1, h1, p1, g1, h2) : Nat × Nat × Nat × (Nat → Int32) × (Nat → Int32) × (Nat → Int32) × (Nat → Int32) × (Nat → Int32)) => []) (fun ((i, c0, n1, s1, h1, p1, g1, h2) : Nat × Nat × Nat × (Nat → Int32) × (Nat → Int32) × (Nat → Int32) × (Nat → Int32) × (Nat → Int32)) => mw cI cZ q ((ua (ua (ua (ua (ua (ua (ua A 0 (uz (uz (uz (A 0) 7 0) 5 (nI (nL + 1))) 6 (nI n1))) 7 (upd (A 7) r0 d)) 17 (s1)) 21 (h1)) 22 (p1)) 23 (g1)) 24 (h2)))) ((0, 0, nT, A 17, A 21, A 22, A 23, A 24)) (⟨Nat.zero_le _, by simp, hlT, fun a _ q9 => by have := (hg.1 a q9).2.2; simp only [pDue, Bool.and_eq_true, decide_eq_true_eq] at this; exact this.1.1, fun _ h9 => h9, rfl, by simp⟩) rfl rfl (by simp only; rw [← hnT]; rfl) ?_
            rintro ⟨i, c0, n1, s1, h1, p1, g1, h2⟩ hI ih85
            try dsimp only at hI ih85 ⊢
            obtain ⟨hi, hc0, hn1, hs1, hs0, hpm, hte⟩ := hI
            have hl150 : lst g i ≤ 150 := by cases i with | zero => exact Nat.zero_le _ | succ i9 => exact (hg150 i9 (by omega)).2
            refine jj_iload X d_mo_load_85 87 rfl 4 rfl ?_
            refine jj_if_eq X d_mo_load_87 293 90 (by decide) rfl (fun c87 => ?_) (fun c87 => ?_)
            · exact absurd c87 (by decide)
            · refine jj_iconst (v := 0) X d_mo_load_90 91 rfl (by decide) ?_
              refine jj_istore (lv' := [(0, .ref (q 0)), (1, .int (nI r0)), (2, .int d), (3, .int (nI c0)), (4, .int 1), (5, .int (nI (lst g i))), (6, .int 0)]) X d_mo_load_91 93 rfl (by decide) rfl rfl ?_
              refine jj_iconst (v := 1) X d_mo_load_93 94 rfl (by decide) ?_
              refine jj_istore (lv' := [(0, .ref (q 0)), (1, .int (nI r0)), (2, .int d), (3, .int (nI c0)), (4, .int 1), (5, .int (nI (lst g i))), (6, .int 0), (7, .int 1)]) X d_mo_load_94 96 rfl (by decide) rfl rfl ?_
              refine jj_loop (fun ((j, best) : Nat × Nat) => 1 ≤ j ∧ j ≤ nS + 1 ∧ best ≤ 150 ∧ x_mn A (pDu s1 A (nI r0) d) (lst g i) (nS + 1 - j) j best = x_mn A (pDu s1 A (nI r0) d) (lst g i) nS 1 0) (fun ((j, best) : Nat × Nat) => nS + 1 - j) (fun ((j, best) : Nat × Nat) => [(0, .ref (q 0)), (1, .int (nI r0)), (2, .int d), (3, .int (nI c0)), (4, .int 1), (5, .int (nI (lst g i))), (6, .int (nI best)), (7, .int (nI j))]) (fun ((j, best) : Nat × Nat) => []) (fun ((j, best) : Nat × Nat) => mw cI cZ q ((ua (ua (ua (ua (ua (ua (ua A 0 (uz (uz (uz (A 0) 7 0) 5 (nI (nL + 1))) 6 (nI n1))) 7 (upd (A 7) r0 d)) 17 (s1)) 21 (h1)) 22 (p1)) 23 (g1)) 24 (h2)))) ((1, 0)) (⟨Nat.le_refl _, by simp, by simp, rfl⟩) rfl rfl rfl ?_
              rintro ⟨j, best⟩ hI ih96
              try dsimp only at hI ih96 ⊢
              obtain ⟨hj1, hj, hbe, hg9⟩ := hI
              refine jj_iload X d_mo_load_96 98 rfl 7 rfl ?_
              refine jj_aload_n X d_mo_load_98 99 rfl 0 rfl ?_
              refine jj_get (v := .int (nI nS)) X d_mo_load_99 102 rfl i_mo 12 f_mo_51 0 rfl rfl (by decide) rfl (by rw [← hnS]; rfl) ?_
              refine jj_icmp_gt X d_mo_load_102 194 105 (by decide) rfl (fun c102 => ?_) (fun c102 => ?_)
              · have hjn : j = nS + 1 := by have := nI_ltD c102 (by omega) (by omega); omega
                rw [hjn, Nat.sub_self, x_mn_g hrg.2.2.2.2.1 hlS hg hi hs1 hs0] at hg9
                have hg9 : best = if i < n then g i else 0 := hg9
                refine jj_iload X d_mo_load_194 196 rfl 6 rfl ?_
                refine jj_if_eq X d_mo_load_196 203 199 (by decide) rfl (fun c196 => ?_) (fun c196 => ?_)
                · have hb0 : best = 0 := nI_eqD (b := 0) c196 (by omega) (by omega)
                  have hin : i = n := by rcases Nat.lt_or_ge i n with z9 | z9; (have := hg150 i z9; rw [if_pos z9] at hg9; omega); omega
                  have hpf : (s1, h1, p1) = (x_pm (nL + 1) g tk 0 (A 17) (A 21) (A 22)) := by rw [← hpm, show tk - i = 0 by omega]; rfl
                  have htf : (n1, g1, h2) = (x_te w (gI g) (n - tk) tk nT (A 23) (A 24)) := by rw [← hte, show n - max i tk = 0 by omega]; rfl
                  refine jj_iconst (v := 0) X d_mo_load_203 204 rfl (by decide) ?_
                  refine jj_istore (lv' := [(0, .ref (q 0)), (1, .int (nI r0)), (2, .int d), (3, .int (nI c0)), (4, .int 0), (5, .int (nI (lst g i))), (6, .int (nI best)), (7, .int (nI j))]) X d_mo_load_204 206 rfl (by decide) rfl rfl ?_
                  refine jj_iload X d_mo_load_206 208 rfl 4 rfl ?_
                  refine jj_if_eq X d_mo_load_208 290 211 (by decide) rfl (fun c208 => ?_) (fun c208 => ?_)
                  · refine jj_goto X d_mo_load_290 85 (by decide) ?_
                    refine jj_iload X d_mo_load_85 87 rfl 4 rfl ?_
                    refine jj_if_eq X d_mo_load_87 293 90 (by decide) rfl (fun c87 => ?_) (fun c87 => ?_)
                    · refine jj_iconst (v := 1) X d_mo_load_293 294 rfl (by decide) ?_
                      refine jj_istore (lv' := [(0, .ref (q 0)), (1, .int (nI r0)), (2, .int d), (3, .int (nI c0)), (4, .int 0), (5, .int (nI (lst g i))), (6, .int 1), (7, .int (nI j))]) X d_mo_load_294 296 rfl (by decide) rfl rfl ?_
                      refine jj_lvs (lv' := [(0, .ref (q 0)), (1, .int (nI r0)), (2, .int d), (3, .int (nI c0)), (4, .int 0), (5, .int (nI (lst g i))), (6, .int 1)]) (by simp) ?_
                      refine jj_loop (fun ((j, f) : Nat × (Nat → Int32)) => 1 ≤ j ∧ j ≤ nS + 1 ∧ x_gm d (nL + 1) s1 h1 (nS + 1 - j) j f = x_gm d (nL + 1) s1 h1 nS 1 (A 19)) (fun ((j, f) : Nat × (Nat → Int32)) => nS + 1 - j) (fun ((j, f) : Nat × (Nat → Int32)) => [(0, .ref (q 0)), (1, .int (nI r0)), (2, .int d), (3, .int (nI c0)), (4, .int 0), (5, .int (nI (lst g i))), (6, .int (nI j))]) (fun ((j, f) : Nat × (Nat → Int32)) => []) (fun ((j, f) : Nat × (Nat → Int32)) => mw cI cZ q ((ua (ua (ua (ua (ua (ua (ua (ua A 0 (uz (uz (uz (A 0) 7 0) 5 (nI (nL + 1))) 6 (nI n1))) 7 (upd (A 7) r0 d)) 17 (s1)) 19 (f)) 21 (h1)) 22 (p1)) 23 (g1)) 24 (h2)))) ((1, A 19)) (⟨Nat.le_refl _, by simp, rfl⟩) rfl rfl rfl ?_
                      rintro ⟨j, f⟩ hI ih296
                      try dsimp only at hI ih296 ⊢
                      obtain ⟨hj1, hj, hgm⟩ := hI
                      refine jj_iload X d_mo_load_296 298 rfl 6 rfl ?_
                      refine jj_aload_n X d_mo_load_298 299 rfl 0 rfl ?_
                      refine jj_get (v := .int (nI nS)) X d_mo_load_299 302 rfl i_mo 12 f_mo_51 0 rfl rfl (by decide) rfl (by rw [← hnS]; rfl) ?_
                      refine jj_icmp_gt X d_mo_load_302 360 305 (by decide) rfl (fun c302 => ?_) (fun c302 => ?_)
                      · have hjn : j = nS + 1 := by have := nI_ltD c302 (by omega) (by omega); omega
                        have hgf : f = x_gm d (nL + 1) s1 h1 nS 1 (A 19) := by rw [← hgm, show nS + 1 - j = 0 by omega]; rfl
                        refine jj_aload_n X d_mo_load_360 361 rfl 0 rfl ?_
                        refine jj_get (v := .int (nI (nL + 1))) X d_mo_load_361 364 rfl i_mo 14 f_mo_92 0 rfl rfl (by decide) rfl rfl ?_
                        exact jj_iret X hr hlk d_mo_load_364 (⟨by simp [s_loadM, okL, nI_clamp (show r0 < 2 ^ 31 by omega), c10, c17, c26, c41, hL], by simp only [s_loadM, okL]; simp [nI_clamp (show r0 < 2 ^ 31 by omega), c10, c17, c26, c41, hL, ← hpf, ← htf, hgf]⟩)
                      · have hjn : j ≤ nS := nI_nltD c302 (by omega) (by omega)
                        refine jj_aload_n X d_mo_load_305 306 rfl 0 rfl ?_
                        refine jj_get (v := .ref (q 8)) X d_mo_load_306 309 rfl i_mo 13 f_mo_32 0 rfl rfl (by decide) rfl rfl ?_
                        refine jj_bipush (v := 8) X d_mo_load_309 311 rfl (by decide) ?_
                        refine jj_iload X d_mo_load_311 313 rfl 6 rfl ?_
                        refine jj_imul X d_mo_load_313 314 rfl ?_
                        refine jj_topv (y := nI (8 * j)) (pk_mul 8 _) ?_
                        refine jj_iconst (v := 2) X d_mo_load_314 315 rfl (by decide) ?_
                        refine jj_iadd X d_mo_load_315 316 rfl ?_
                        refine jj_topv (y := nI (8 * j + 2)) (nI_add _ 2) ?_
                        refine jj_iald (v := (s1) j) X d_mo_load_316 317 rfl 8 0 rfl rfl (vp_in_nI (by omega) (by omega)) ((ar_cl (by omega)).trans (mxr8_2 _)) ?_
                        refine jj_iconst (v := 1) X d_mo_load_317 318 rfl (by decide) ?_
                        refine jj_icmp_ne X d_mo_load_318 354 321 (by decide) rfl (fun c318 => ?_) (fun c318 => ?_)
                        · refine jj_iinc (v := nI (j + 1)) (lv' := [(0, .ref (q 0)), (1, .int (nI r0)), (2, .int d), (3, .int (nI c0)), (4, .int 0), (5, .int (nI (lst g i))), (6, .int (nI (j + 1)))]) X d_mo_load_354 357 rfl 6 rfl (ar_inc _) (by decide) rfl rfl ?_
                          refine jj_goto X d_mo_load_357 296 (by decide) ?_
                          exact ih296 ((j + 1, f)) (⟨by simp only; omega, by simp only; omega, by simp only; rw [← hgm, x_gm_s hjn]; simp [c318]⟩) (by simp only; omega)
                        · refine jj_aload_n X d_mo_load_321 322 rfl 0 rfl ?_
                          refine jj_get (v := .ref (q 8)) X d_mo_load_322 325 rfl i_mo 13 f_mo_32 0 rfl rfl (by decide) rfl rfl ?_
                          refine jj_bipush (v := 8) X d_mo_load_325 327 rfl (by decide) ?_
                          refine jj_iload X d_mo_load_327 329 rfl 6 rfl ?_
                          refine jj_imul X d_mo_load_329 330 rfl ?_
                          refine jj_topv (y := nI (8 * j)) (pk_mul 8 _) ?_
                          refine jj_bipush (v := 6) X d_mo_load_330 332 rfl (by decide) ?_
                          refine jj_iadd X d_mo_load_332 333 rfl ?_
                          refine jj_topv (y := nI (8 * j + 6)) (nI_add _ 6) ?_
                          refine jj_iald (v := (h1) j) X d_mo_load_333 334 rfl 8 0 rfl rfl (vp_in_nI (by omega) (by omega)) ((ar_cl (by omega)).trans (mxr8_6 _)) ?_
                          refine jj_aload_n X d_mo_load_334 335 rfl 0 rfl ?_
                          refine jj_get (v := .int (nI (nL + 1))) X d_mo_load_335 338 rfl i_mo 14 f_mo_92 0 rfl rfl (by decide) rfl rfl ?_
                          refine jj_icmp_ne X d_mo_load_338 354 341 (by decide) rfl (fun c338 => ?_) (fun c338 => ?_)
                          · refine jj_iinc (v := nI (j + 1)) (lv' := [(0, .ref (q 0)), (1, .int (nI r0)), (2, .int d), (3, .int (nI c0)), (4, .int 0), (5, .int (nI (lst g i))), (6, .int (nI (j + 1)))]) X d_mo_load_354 357 rfl 6 rfl (ar_inc _) (by decide) rfl rfl ?_
                            refine jj_goto X d_mo_load_357 296 (by decide) ?_
                            exact ih296 ((j + 1, f)) (⟨by simp only; omega, by simp only; omega, by simp only; rw [← hgm, x_gm_s hjn]; simp [c318, c338]⟩) (by simp only; omega)
                          · refine jj_aload_n X d_mo_load_341 342 rfl 0 rfl ?_
                            refine jj_get (v := .ref (q 8)) X d_mo_load_342 345 rfl i_mo 13 f_mo_32 0 rfl rfl (by decide) rfl rfl ?_
                            refine jj_bipush (v := 8) X d_mo_load_345 347 rfl (by decide) ?_
                            refine jj_iload X d_mo_load_347 349 rfl 6 rfl ?_
                            refine jj_imul X d_mo_load_349 350 rfl ?_
                            refine jj_topv (y := nI (8 * j)) (pk_mul 8 _) ?_
                            refine jj_iconst (v := 4) X d_mo_load_350 351 rfl (by decide) ?_
                            refine jj_iadd X d_mo_load_351 352 rfl ?_
                            refine jj_topv (y := nI (8 * j + 4)) (nI_add _ 4) ?_
                            refine jj_iload_n X d_mo_load_352 353 rfl 2 rfl ?_
                            refine jj_iast (ws' := mw cI cZ q ((ua (ua (ua (ua (ua (ua (ua (ua A 0 (uz (uz (uz (A 0) 7 0) 5 (nI (nL + 1))) 6 (nI n1))) 7 (upd (A 7) r0 d)) 17 (s1)) 19 (upd (f) j d)) 21 (h1)) 22 (p1)) 23 (g1)) 24 (h2)))) X d_mo_load_353 354 rfl 8 0 rfl rfl (vp_in_nI (by omega) (by omega)) (by rw [nI_clamp (by omega)]; exact congrArg (fun z => List.set (mw cI cZ q ((ua (ua (ua (ua (ua (ua (ua (ua A 0 (uz (uz (uz (A 0) 7 0) 5 (nI (nL + 1))) 6 (nI n1))) 7 (upd (A 7) r0 d)) 17 (s1)) 19 (f)) 21 (h1)) 22 (p1)) 23 (g1)) 24 (h2)))) 8 (q 8, .inl (cI, 1208, .inl z))) (mxu8_4 _ _)) ?_
                            refine jj_iinc (v := nI (j + 1)) (lv' := [(0, .ref (q 0)), (1, .int (nI r0)), (2, .int d), (3, .int (nI c0)), (4, .int 0), (5, .int (nI (lst g i))), (6, .int (nI (j + 1)))]) X d_mo_load_354 357 rfl 6 rfl (ar_inc _) (by decide) rfl rfl ?_
                            refine jj_goto X d_mo_load_357 296 (by decide) ?_
                            exact ih296 ((j + 1, upd (f) j d)) (⟨by simp only; omega, by simp only; omega, by simp only; rw [← hgm, x_gm_s hjn]; simp [c318, c338]⟩) (by simp only; omega)
                    · exact absurd c87 (by decide)
                  · exact absurd c208 (by decide)
                · have hin : i < n := by rcases Nat.lt_or_ge i n with z9 | z9; exact z9; (rw [if_neg (by omega)] at hg9; exact absurd hg9 (nI_neD (b := 0) c196))
                  rw [if_pos hin] at hg9
                  subst hg9
                  have hgi := hg150 i hin
                  refine jj_iconst (v := 1) X d_mo_load_199 200 rfl (by decide) ?_
                  refine jj_goto X d_mo_load_200 204 (by decide) ?_
                  refine jj_istore (lv' := [(0, .ref (q 0)), (1, .int (nI r0)), (2, .int d), (3, .int (nI c0)), (4, .int 1), (5, .int (nI (lst g i))), (6, .int (nI (g i))), (7, .int (nI j))]) X d_mo_load_204 206 rfl (by decide) rfl rfl ?_
                  refine jj_iload X d_mo_load_206 208 rfl 4 rfl ?_
                  refine jj_if_eq X d_mo_load_208 290 211 (by decide) rfl (fun c208 => ?_) (fun c208 => ?_)
                  · exact absurd c208 (by decide)
                  · refine jj_aload_n X d_mo_load_211 212 rfl 0 rfl ?_
                    refine jj_get (v := .ref (q 1)) X d_mo_load_212 215 rfl i_mo 2 f_mo_7 0 rfl rfl (by decide) rfl rfl ?_
                    refine jj_aload_n X d_mo_load_215 216 rfl 0 rfl ?_
                    refine jj_get (v := .ref (q 2)) X d_mo_load_216 219 rfl i_mo 4 f_mo_13 0 rfl rfl (by decide) rfl rfl ?_
                    refine jj_bipush (v := 6) X d_mo_load_219 221 rfl (by decide) ?_
                    refine jj_iload_n X d_mo_load_221 222 rfl 1 rfl ?_
                    refine jj_imul X d_mo_load_222 223 rfl ?_
                    refine jj_topv (y := nI (6 * r0)) (pk_mul 6 _) ?_
                    refine jj_iconst (v := 1) X d_mo_load_223 224 rfl (by decide) ?_
                    refine jj_iadd X d_mo_load_224 225 rfl ?_
                    refine jj_topv (y := nI (6 * r0 + 1)) (nI_1 _) ?_
                    refine jj_iald (v := A 3 r0) X d_mo_load_225 226 rfl 2 0 rfl rfl (vp_in_nI (by omega) (by omega)) ((ar_cl (by omega)).trans (mxr6_1 _)) ?_
                    refine jj_zald (v := A 1 (A 3 r0).toNatClampNeg) X d_mo_load_226 227 rfl 1 1 rfl rfl (hrg.2.2.1 _) (rfl) ?_
                    refine jj_if_ne X d_mo_load_227 234 230 (by decide) rfl (fun c227 => ?_) (fun c227 => ?_)
                    · have hwv : w = 1 := by rw [hw, if_neg c227]
                      have htk0 : tk = 0 := by rw [htk, if_neg c227]
                      refine jj_iconst (v := 0) X d_mo_load_234 235 rfl (by decide) ?_
                      refine jj_istore (lv' := [(0, .ref (q 0)), (1, .int (nI r0)), (2, .int d), (3, .int (nI c0)), (4, .int 1), (5, .int (nI (lst g i))), (6, .int (nI (g i))), (7, .int 0)]) X d_mo_load_235 237 rfl (by decide) rfl rfl ?_
                      refine jj_iload X d_mo_load_237 239 rfl 7 rfl ?_
                      refine jj_if_eq X d_mo_load_239 270 242 (by decide) rfl (fun c239 => ?_) (fun c239 => ?_)
                      · refine jj_aload_n X d_mo_load_270 271 rfl 0 rfl ?_
                        refine jj_iload X d_mo_load_271 273 rfl 7 rfl ?_
                        refine jj_if_eq X d_mo_load_273 280 276 (by decide) rfl (fun c273 => ?_) (fun c273 => ?_)
                        · refine jj_iconst (v := 1) X d_mo_load_280 281 rfl (by decide) ?_
                          refine jj_iload X d_mo_load_281 283 rfl 6 rfl ?_
                          refine jj_callVv0 (st := []) X d_mo_load_283 286 rfl (c_mo_tell l D cI cZ q ((ua (ua (ua (ua (ua (ua (ua A 0 (uz (uz (uz (A 0) 7 0) 5 (nI (nL + 1))) 6 (nI n1))) 7 (upd (A 7) r0 d)) 17 (s1)) 21 (h1)) 22 (p1)) 23 (g1)) 24 (h2))) n1 1 (nI (g i)) rfl hn1) g_mo_99 ⟨rfl, w_mo_tell⟩ ⟨(Nat.le_of_ble_eq_true rfl), (Nat.le_of_ble_eq_true rfl)⟩ rfl 0 rfl rfl rfl (Nat.le_of_ble_eq_true rfl) ⟨rfl, rfl⟩ ⟨Nat.zero_le _, Nat.zero_le _⟩ (fun u hu => ?_)
                          obtain rfl := hu
                          refine jj_wse (ws' := mw cI cZ q ((ua (ua (ua (ua (ua (ua (ua A 0 (uz (uz (uz (A 0) 7 0) 5 (nI (nL + 1))) 6 (nI (teN n1)))) 7 (upd (A 7) r0 d)) 17 (s1)) 21 (h1)) 22 (p1)) 23 (teG n1 1 g1)) 24 (teG n1 (nI (g i)) h2)))) (rfl) ?_
                          refine jj_iload X d_mo_load_286 288 rfl 6 rfl ?_
                          refine jj_istore (lv' := [(0, .ref (q 0)), (1, .int (nI r0)), (2, .int d), (3, .int (nI c0)), (4, .int 1), (5, .int (nI (g i))), (6, .int (nI (g i))), (7, .int 0)]) X d_mo_load_288 290 rfl (by decide) rfl rfl ?_
                          refine jj_goto X d_mo_load_290 85 (by decide) ?_
                          refine jj_lvs (lv' := [(0, .ref (q 0)), (1, .int (nI r0)), (2, .int d), (3, .int (nI c0)), (4, .int 1), (5, .int (nI (g i)))]) (by simp) ?_
                          exact ih85 ((i + 1, c0, teN n1, s1, h1, p1, teG n1 1 g1, teG n1 (nI (g i)) h2)) (⟨by simp only; omega, by simp only; omega, teN_le hn1, fun a p9 q9 => hs1 a (by simp only at p9; omega) q9, hs0, by simp only; rw [← hpm, show tk - (i + 1) = 0 by omega, show tk - i = 0 by omega]; rfl, by simp only; rw [← hte, show max (i + 1) tk = i + 1 by omega, show max i tk = i by omega, x_te_s hin, hwv]; rfl⟩) (by simp only; omega)
                        · exact absurd c273 (by decide)
                      · exact absurd c239 (by decide)
                    · have hwv : w = 2 := by rw [hw, if_pos c227]
                      have htk1 : tk = min n rm := by rw [htk, if_pos c227]
                      refine jj_iconst (v := 1) X d_mo_load_230 231 rfl (by decide) ?_
                      refine jj_goto X d_mo_load_231 235 (by decide) ?_
                      refine jj_istore (lv' := [(0, .ref (q 0)), (1, .int (nI r0)), (2, .int d), (3, .int (nI c0)), (4, .int 1), (5, .int (nI (lst g i))), (6, .int (nI (g i))), (7, .int 1)]) X d_mo_load_235 237 rfl (by decide) rfl rfl ?_
                      refine jj_iload X d_mo_load_237 239 rfl 7 rfl ?_
                      refine jj_if_eq X d_mo_load_239 270 242 (by decide) rfl (fun c239 => ?_) (fun c239 => ?_)
                      · exact absurd c239 (by decide)
                      · refine jj_iload_n X d_mo_load_242 243 rfl 3 rfl ?_
                        refine jj_aload_n X d_mo_load_243 244 rfl 0 rfl ?_
                        refine jj_get (v := .ref (q 2)) X d_mo_load_244 247 rfl i_mo 4 f_mo_13 0 rfl rfl (by decide) rfl rfl ?_
                        refine jj_bipush (v := 6) X d_mo_load_247 249 rfl (by decide) ?_
                        refine jj_iload_n X d_mo_load_249 250 rfl 1 rfl ?_
                        refine jj_imul X d_mo_load_250 251 rfl ?_
                        refine jj_topv (y := nI (6 * r0)) (pk_mul 6 _) ?_
                        refine jj_iconst (v := 4) X d_mo_load_251 252 rfl (by decide) ?_
                        refine jj_iadd X d_mo_load_252 253 rfl ?_
                        refine jj_topv (y := nI (6 * r0 + 4)) (nI_add _ 4) ?_
                        refine jj_iald (v := nI rm) X d_mo_load_253 254 rfl 2 0 rfl rfl (vp_in_nI (by omega) (by omega)) (((ar_cl (by omega)).trans (mxr6_4 _)).trans hrm) ?_
                        refine jj_icmp_ge X d_mo_load_254 270 257 (by decide) rfl (fun c254 => ?_) (fun c254 => ?_)
                        · have hitk : ¬ i < tk := by have := nI_leD c254 (by omega) (by omega); omega
                          refine jj_aload_n X d_mo_load_270 271 rfl 0 rfl ?_
                          refine jj_iload X d_mo_load_271 273 rfl 7 rfl ?_
                          refine jj_if_eq X d_mo_load_273 280 276 (by decide) rfl (fun c273 => ?_) (fun c273 => ?_)
                          · exact absurd c273 (by decide)
                          · refine jj_iconst (v := 2) X d_mo_load_276 277 rfl (by decide) ?_
                            refine jj_goto X d_mo_load_277 281 (by decide) ?_
                            refine jj_iload X d_mo_load_281 283 rfl 6 rfl ?_
                            refine jj_callVv0 (st := []) X d_mo_load_283 286 rfl (c_mo_tell l D cI cZ q ((ua (ua (ua (ua (ua (ua (ua A 0 (uz (uz (uz (A 0) 7 0) 5 (nI (nL + 1))) 6 (nI n1))) 7 (upd (A 7) r0 d)) 17 (s1)) 21 (h1)) 22 (p1)) 23 (g1)) 24 (h2))) n1 2 (nI (g i)) rfl hn1) g_mo_99 ⟨rfl, w_mo_tell⟩ ⟨(Nat.le_of_ble_eq_true rfl), (Nat.le_of_ble_eq_true rfl)⟩ rfl 0 rfl rfl rfl (Nat.le_of_ble_eq_true rfl) ⟨rfl, rfl⟩ ⟨Nat.zero_le _, Nat.zero_le _⟩ (fun u hu => ?_)
                            obtain rfl := hu
                            refine jj_wse (ws' := mw cI cZ q ((ua (ua (ua (ua (ua (ua (ua A 0 (uz (uz (uz (A 0) 7 0) 5 (nI (nL + 1))) 6 (nI (teN n1)))) 7 (upd (A 7) r0 d)) 17 (s1)) 21 (h1)) 22 (p1)) 23 (teG n1 2 g1)) 24 (teG n1 (nI (g i)) h2)))) (rfl) ?_
                            refine jj_iload X d_mo_load_286 288 rfl 6 rfl ?_
                            refine jj_istore (lv' := [(0, .ref (q 0)), (1, .int (nI r0)), (2, .int d), (3, .int (nI c0)), (4, .int 1), (5, .int (nI (g i))), (6, .int (nI (g i))), (7, .int 1)]) X d_mo_load_288 290 rfl (by decide) rfl rfl ?_
                            refine jj_goto X d_mo_load_290 85 (by decide) ?_
                            refine jj_lvs (lv' := [(0, .ref (q 0)), (1, .int (nI r0)), (2, .int d), (3, .int (nI c0)), (4, .int 1), (5, .int (nI (g i)))]) (by simp) ?_
                            exact ih85 ((i + 1, c0, teN n1, s1, h1, p1, teG n1 2 g1, teG n1 (nI (g i)) h2)) (⟨by simp only; omega, by simp only; omega, teN_le hn1, fun a p9 q9 => hs1 a (by simp only at p9; omega) q9, hs0, by simp only; rw [← hpm, show tk - (i + 1) = 0 by omega, show tk - i = 0 by omega]; rfl, by simp only; rw [← hte, show max (i + 1) tk = i + 1 by omega, show max i tk = i by omega, x_te_s hin, hwv]; rfl⟩) (by simp only; omega)
                        · have hitk : i < tk := by have := nI_nleD c254 (by omega) (by omega); omega
                          refine jj_aload_n X d_mo_load_257 258 rfl 0 rfl ?_
                          refine jj_iload X d_mo_load_258 260 rfl 6 rfl ?_
                          refine jj_iload_n X d_mo_load_260 261 rfl 3 rfl ?_
                          refine jj_callVv0 (st := []) X d_mo_load_261 264 rfl (c_mo_put l D cI cZ q ((ua (ua (ua (ua (ua (ua (ua A 0 (uz (uz (uz (A 0) 7 0) 5 (nI (nL + 1))) 6 (nI n1))) 7 (upd (A 7) r0 d)) 17 (s1)) 21 (h1)) 22 (p1)) 23 (g1)) 24 (h2))) (nL + 1) (g i) (nI c0) rfl (by omega) (by omega)) g_mo_95 ⟨rfl, w_mo_put⟩ ⟨(Nat.le_of_ble_eq_true rfl), (Nat.le_of_ble_eq_true rfl)⟩ rfl 0 rfl rfl rfl (Nat.le_of_ble_eq_true rfl) ⟨rfl, rfl⟩ ⟨Nat.zero_le _, Nat.zero_le _⟩ (fun u hu => ?_)
                          obtain rfl := hu
                          refine jj_wse (ws' := mw cI cZ q ((ua (ua (ua (ua (ua (ua (ua A 0 (uz (uz (uz (A 0) 7 0) 5 (nI (nL + 1))) 6 (nI n1))) 7 (upd (A 7) r0 d)) 17 (upd s1 (g i) 1)) 21 (upd h1 (g i) (nI (nL + 1)))) 22 (upd p1 (g i) (nI c0))) 23 (g1)) 24 (h2)))) (rfl) ?_
                          refine jj_iinc (v := nI (c0 + 1)) (lv' := [(0, .ref (q 0)), (1, .int (nI r0)), (2, .int d), (3, .int (nI (c0 + 1))), (4, .int 1), (5, .int (nI (lst g i))), (6, .int (nI (g i))), (7, .int 1)]) X d_mo_load_264 267 rfl 3 rfl (ar_inc _) (by decide) rfl rfl ?_
                          refine jj_goto X d_mo_load_267 286 (by decide) ?_
                          refine jj_iload X d_mo_load_286 288 rfl 6 rfl ?_
                          refine jj_istore (lv' := [(0, .ref (q 0)), (1, .int (nI r0)), (2, .int d), (3, .int (nI (c0 + 1))), (4, .int 1), (5, .int (nI (g i))), (6, .int (nI (g i))), (7, .int 1)]) X d_mo_load_288 290 rfl (by decide) rfl rfl ?_
                          refine jj_goto X d_mo_load_290 85 (by decide) ?_
                          refine jj_lvs (lv' := [(0, .ref (q 0)), (1, .int (nI r0)), (2, .int d), (3, .int (nI (c0 + 1))), (4, .int 1), (5, .int (nI (g i)))]) (by simp) ?_
                          exact ih85 ((i + 1, c0 + 1, n1, upd s1 (g i) 1, upd h1 (g i) (nI (nL + 1)), upd p1 (g i) (nI c0), g1, h2)) (⟨by simp only; omega, by simp only; omega, hn1, fun a p9 q9 => by simp only at p9 ⊢; unfold upd; rw [if_neg (fun e9 => hgne i a (by omega) q9 e9.symm)]; exact hs1 a (by omega) q9, fun s9 h9 => by simp only at h9; unfold upd at h9; split at h9; exact absurd h9 (by decide); exact hs0 s9 h9, by simp only; rw [← hpm, x_pm_s hitk, show c0 = i by omega], by simp only; rw [← hte, show max (i + 1) tk = max i tk by omega]⟩) (by simp only; omega)
              · have hjn : j ≤ nS := nI_nltD c102 (by omega) (by omega)
                refine jj_aload_n X d_mo_load_105 106 rfl 0 rfl ?_
                refine jj_get (v := .ref (q 8)) X d_mo_load_106 109 rfl i_mo 13 f_mo_32 0 rfl rfl (by decide) rfl rfl ?_
                refine jj_bipush (v := 8) X d_mo_load_109 111 rfl (by decide) ?_
                refine jj_iload X d_mo_load_111 113 rfl 7 rfl ?_
                refine jj_imul X d_mo_load_113 114 rfl ?_
                refine jj_topv (y := nI (8 * j)) (pk_mul 8 _) ?_
                refine jj_iconst (v := 1) X d_mo_load_114 115 rfl (by decide) ?_
                refine jj_iadd X d_mo_load_115 116 rfl ?_
                refine jj_topv (y := nI (8 * j + 1)) (nI_1 _) ?_
                refine jj_iald (v := A 16 j) X d_mo_load_116 117 rfl 8 0 rfl rfl (vp_in_nI (by omega) (by omega)) ((ar_cl (by omega)).trans (mxr8_1 _)) ?_
                refine jj_iload_n X d_mo_load_117 118 rfl 1 rfl ?_
                refine jj_icmp_ne X d_mo_load_118 188 121 (by decide) rfl (fun c118 => ?_) (fun c118 => ?_)
                · refine jj_iinc (v := nI (j + 1)) (lv' := [(0, .ref (q 0)), (1, .int (nI r0)), (2, .int d), (3, .int (nI c0)), (4, .int 1), (5, .int (nI (lst g i))), (6, .int (nI best)), (7, .int (nI (j + 1)))]) X d_mo_load_188 191 rfl 7 rfl (ar_inc _) (by decide) rfl rfl ?_
                  refine jj_goto X d_mo_load_191 96 (by decide) ?_
                  exact ih96 ((j + 1, best)) (⟨by simp only; omega, by simp only; omega, by simp only; omega, by simp only; rw [← hg9, x_mn_s hjn]; simp [pDu, ltB, c118]⟩) (by simp only; omega)
                · refine jj_aload_n X d_mo_load_121 122 rfl 0 rfl ?_
                  refine jj_get (v := .ref (q 8)) X d_mo_load_122 125 rfl i_mo 13 f_mo_32 0 rfl rfl (by decide) rfl rfl ?_
                  refine jj_bipush (v := 8) X d_mo_load_125 127 rfl (by decide) ?_
                  refine jj_iload X d_mo_load_127 129 rfl 7 rfl ?_
                  refine jj_imul X d_mo_load_129 130 rfl ?_
                  refine jj_topv (y := nI (8 * j)) (pk_mul 8 _) ?_
                  refine jj_iconst (v := 2) X d_mo_load_130 131 rfl (by decide) ?_
                  refine jj_iadd X d_mo_load_131 132 rfl ?_
                  refine jj_topv (y := nI (8 * j + 2)) (nI_add _ 2) ?_
                  refine jj_iald (v := (s1) j) X d_mo_load_132 133 rfl 8 0 rfl rfl (vp_in_nI (by omega) (by omega)) ((ar_cl (by omega)).trans (mxr8_2 _)) ?_
                  refine jj_if_ne X d_mo_load_133 188 136 (by decide) rfl (fun c133 => ?_) (fun c133 => ?_)
                  · refine jj_iinc (v := nI (j + 1)) (lv' := [(0, .ref (q 0)), (1, .int (nI r0)), (2, .int d), (3, .int (nI c0)), (4, .int 1), (5, .int (nI (lst g i))), (6, .int (nI best)), (7, .int (nI (j + 1)))]) X d_mo_load_188 191 rfl 7 rfl (ar_inc _) (by decide) rfl rfl ?_
                    refine jj_goto X d_mo_load_191 96 (by decide) ?_
                    exact ih96 ((j + 1, best)) (⟨by simp only; omega, by simp only; omega, by simp only; omega, by simp only; rw [← hg9, x_mn_s hjn]; simp [pDu, ltB, c118, c133]⟩) (by simp only; omega)
                  · refine jj_aload_n X d_mo_load_136 137 rfl 0 rfl ?_
                    refine jj_get (v := .ref (q 8)) X d_mo_load_137 140 rfl i_mo 13 f_mo_32 0 rfl rfl (by decide) rfl rfl ?_
                    refine jj_bipush (v := 8) X d_mo_load_140 142 rfl (by decide) ?_
                    refine jj_iload X d_mo_load_142 144 rfl 7 rfl ?_
                    refine jj_imul X d_mo_load_144 145 rfl ?_
                    refine jj_topv (y := nI (8 * j)) (pk_mul 8 _) ?_
                    refine jj_iconst (v := 4) X d_mo_load_145 146 rfl (by decide) ?_
                    refine jj_iadd X d_mo_load_146 147 rfl ?_
                    refine jj_topv (y := nI (8 * j + 4)) (nI_add _ 4) ?_
                    refine jj_iald (v := A 19 j) X d_mo_load_147 148 rfl 8 0 rfl rfl (vp_in_nI (by omega) (by omega)) ((ar_cl (by omega)).trans (mxr8_4 _)) ?_
                    refine jj_iload_n X d_mo_load_148 149 rfl 2 rfl ?_
                    refine jj_icmp_gt X d_mo_load_149 188 152 (by decide) rfl (fun c149 => ?_) (fun c149 => ?_)
                    · have c149 := Int32.not_le.mpr c149
                      refine jj_iinc (v := nI (j + 1)) (lv' := [(0, .ref (q 0)), (1, .int (nI r0)), (2, .int d), (3, .int (nI c0)), (4, .int 1), (5, .int (nI (lst g i))), (6, .int (nI best)), (7, .int (nI (j + 1)))]) X d_mo_load_188 191 rfl 7 rfl (ar_inc _) (by decide) rfl rfl ?_
                      refine jj_goto X d_mo_load_191 96 (by decide) ?_
                      exact ih96 ((j + 1, best)) (⟨by simp only; omega, by simp only; omega, by simp only; omega, by simp only; rw [← hg9, x_mn_s hjn]; simp [pDu, ltB, c118, c133, c149]⟩) (by simp only; omega)
                    · have c149 := Int32.not_lt.mp c149
                      refine jj_iload X d_mo_load_152 154 rfl 5 rfl ?_
                      refine jj_if_eq X d_mo_load_154 168 157 (by decide) rfl (fun c154 => ?_) (fun c154 => ?_)
                      · have hl0 : lst g i = 0 := nI_eqD (b := 0) c154 (by omega) (by omega)
                        refine jj_iload X d_mo_load_168 170 rfl 6 rfl ?_
                        refine jj_if_eq X d_mo_load_170 184 173 (by decide) rfl (fun c170 => ?_) (fun c170 => ?_)
                        · have hb0 : best = 0 := nI_eqD (b := 0) c170 (by omega) (by omega)
                          refine jj_iload X d_mo_load_184 186 rfl 7 rfl ?_
                          refine jj_istore (lv' := [(0, .ref (q 0)), (1, .int (nI r0)), (2, .int d), (3, .int (nI c0)), (4, .int 1), (5, .int (nI (lst g i))), (6, .int (nI j)), (7, .int (nI j))]) X d_mo_load_186 188 rfl (by decide) rfl rfl ?_
                          refine jj_iinc (v := nI (j + 1)) (lv' := [(0, .ref (q 0)), (1, .int (nI r0)), (2, .int d), (3, .int (nI c0)), (4, .int 1), (5, .int (nI (lst g i))), (6, .int (nI j)), (7, .int (nI (j + 1)))]) X d_mo_load_188 191 rfl 7 rfl (ar_inc _) (by decide) rfl rfl ?_
                          refine jj_goto X d_mo_load_191 96 (by decide) ?_
                          exact ih96 ((j + 1, j)) (⟨by simp only; omega, by simp only; omega, by simp only; omega, by simp only; rw [← hg9, x_mn_s hjn]; simp [pDu, ltB, c118, c133, c149, hl0, hb0]⟩) (by simp only; omega)
                        · have hb0 : best ≠ 0 := nI_neD (b := 0) c170
                          refine jj_aload_n X d_mo_load_173 174 rfl 0 rfl ?_
                          refine jj_iload X d_mo_load_174 176 rfl 7 rfl ?_
                          refine jj_iload X d_mo_load_176 178 rfl 6 rfl ?_
                          refine jj_callV0 (st := []) X d_mo_load_178 181 rfl (c_mo_isBefore l D cI cZ q ((ua (ua (ua (ua (ua (ua (ua A 0 (uz (uz (uz (A 0) 7 0) 5 (nI (nL + 1))) 6 (nI n1))) 7 (upd (A 7) r0 d)) 17 (s1)) 21 (h1)) 22 (p1)) 23 (g1)) 24 (h2))) j best hrg (by omega) (by omega)) g_mo_86 ⟨rfl, w_mo_isBefore⟩ ⟨(Nat.le_of_ble_eq_true rfl), (Nat.le_of_ble_eq_true rfl)⟩ rfl 0 rfl rfl rfl (Nat.le_of_ble_eq_true rfl) ⟨rfl, rfl⟩ ⟨Nat.zero_le _, Nat.zero_le _⟩ (fun r u hu => ?_)
                          obtain ⟨rfl, rfl⟩ := hu
                          refine jj_if_eq X d_mo_load_181 188 184 (by decide) rfl (fun c181 => ?_) (fun c181 => ?_)
                          · have c181 : bfI A (nI j) (nI best) = 0 := c181
                            refine jj_iinc (v := nI (j + 1)) (lv' := [(0, .ref (q 0)), (1, .int (nI r0)), (2, .int d), (3, .int (nI c0)), (4, .int 1), (5, .int (nI (lst g i))), (6, .int (nI best)), (7, .int (nI (j + 1)))]) X d_mo_load_188 191 rfl 7 rfl (ar_inc _) (by decide) rfl rfl ?_
                            refine jj_goto X d_mo_load_191 96 (by decide) ?_
                            exact ih96 ((j + 1, best)) (⟨by simp only; omega, by simp only; omega, by simp only; omega, by simp only; rw [← hg9, x_mn_s hjn]; simp [pDu, ltB, c118, c133, c149, hl0, hb0, c181]⟩) (by simp only; omega)
                          · have c181 : ¬ bfI A (nI j) (nI best) = 0 := c181
                            refine jj_iload X d_mo_load_184 186 rfl 7 rfl ?_
                            refine jj_istore (lv' := [(0, .ref (q 0)), (1, .int (nI r0)), (2, .int d), (3, .int (nI c0)), (4, .int 1), (5, .int (nI (lst g i))), (6, .int (nI j)), (7, .int (nI j))]) X d_mo_load_186 188 rfl (by decide) rfl rfl ?_
                            refine jj_iinc (v := nI (j + 1)) (lv' := [(0, .ref (q 0)), (1, .int (nI r0)), (2, .int d), (3, .int (nI c0)), (4, .int 1), (5, .int (nI (lst g i))), (6, .int (nI j)), (7, .int (nI (j + 1)))]) X d_mo_load_188 191 rfl 7 rfl (ar_inc _) (by decide) rfl rfl ?_
                            refine jj_goto X d_mo_load_191 96 (by decide) ?_
                            exact ih96 ((j + 1, j)) (⟨by simp only; omega, by simp only; omega, by simp only; omega, by simp only; rw [← hg9, x_mn_s hjn]; simp [pDu, ltB, c118, c133, c149, hl0, hb0, c181]⟩) (by simp only; omega)
                      · have hl0 : lst g i ≠ 0 := nI_neD (b := 0) c154
                        refine jj_aload_n X d_mo_load_157 158 rfl 0 rfl ?_
                        refine jj_iload X d_mo_load_158 160 rfl 5 rfl ?_
                        refine jj_iload X d_mo_load_160 162 rfl 7 rfl ?_
                        refine jj_callV0 (st := []) X d_mo_load_162 165 rfl (c_mo_isBefore l D cI cZ q ((ua (ua (ua (ua (ua (ua (ua A 0 (uz (uz (uz (A 0) 7 0) 5 (nI (nL + 1))) 6 (nI n1))) 7 (upd (A 7) r0 d)) 17 (s1)) 21 (h1)) 22 (p1)) 23 (g1)) 24 (h2))) ((lst g i)) j hrg (by omega) (by omega)) g_mo_86 ⟨rfl, w_mo_isBefore⟩ ⟨(Nat.le_of_ble_eq_true rfl), (Nat.le_of_ble_eq_true rfl)⟩ rfl 0 rfl rfl rfl (Nat.le_of_ble_eq_true rfl) ⟨rfl, rfl⟩ ⟨Nat.zero_le _, Nat.zero_le _⟩ (fun r u hu => ?_)
                        obtain ⟨rfl, rfl⟩ := hu
                        refine jj_if_eq X d_mo_load_165 188 168 (by decide) rfl (fun c165 => ?_) (fun c165 => ?_)
                        · have c165 : bfI A (nI (lst g i)) (nI j) = 0 := c165
                          refine jj_iinc (v := nI (j + 1)) (lv' := [(0, .ref (q 0)), (1, .int (nI r0)), (2, .int d), (3, .int (nI c0)), (4, .int 1), (5, .int (nI (lst g i))), (6, .int (nI best)), (7, .int (nI (j + 1)))]) X d_mo_load_188 191 rfl 7 rfl (ar_inc _) (by decide) rfl rfl ?_
                          refine jj_goto X d_mo_load_191 96 (by decide) ?_
                          exact ih96 ((j + 1, best)) (⟨by simp only; omega, by simp only; omega, by simp only; omega, by simp only; rw [← hg9, x_mn_s hjn]; simp [pDu, ltB, c118, c133, c149, hl0, c165]⟩) (by simp only; omega)
                        · have c165 : ¬ bfI A (nI (lst g i)) (nI j) = 0 := c165
                          refine jj_iload X d_mo_load_168 170 rfl 6 rfl ?_
                          refine jj_if_eq X d_mo_load_170 184 173 (by decide) rfl (fun c170 => ?_) (fun c170 => ?_)
                          · have hb0 : best = 0 := nI_eqD (b := 0) c170 (by omega) (by omega)
                            refine jj_iload X d_mo_load_184 186 rfl 7 rfl ?_
                            refine jj_istore (lv' := [(0, .ref (q 0)), (1, .int (nI r0)), (2, .int d), (3, .int (nI c0)), (4, .int 1), (5, .int (nI (lst g i))), (6, .int (nI j)), (7, .int (nI j))]) X d_mo_load_186 188 rfl (by decide) rfl rfl ?_
                            refine jj_iinc (v := nI (j + 1)) (lv' := [(0, .ref (q 0)), (1, .int (nI r0)), (2, .int d), (3, .int (nI c0)), (4, .int 1), (5, .int (nI (lst g i))), (6, .int (nI j)), (7, .int (nI (j + 1)))]) X d_mo_load_188 191 rfl 7 rfl (ar_inc _) (by decide) rfl rfl ?_
                            refine jj_goto X d_mo_load_191 96 (by decide) ?_
                            exact ih96 ((j + 1, j)) (⟨by simp only; omega, by simp only; omega, by simp only; omega, by simp only; rw [← hg9, x_mn_s hjn]; simp [pDu, ltB, c118, c133, c149, hl0, c165, hb0]⟩) (by simp only; omega)
                          · have hb0 : best ≠ 0 := nI_neD (b := 0) c170
                            refine jj_aload_n X d_mo_load_173 174 rfl 0 rfl ?_
                            refine jj_iload X d_mo_load_174 176 rfl 7 rfl ?_
                            refine jj_iload X d_mo_load_176 178 rfl 6 rfl ?_
                            refine jj_callV0 (st := []) X d_mo_load_178 181 rfl (c_mo_isBefore l D cI cZ q ((ua (ua (ua (ua (ua (ua (ua A 0 (uz (uz (uz (A 0) 7 0) 5 (nI (nL + 1))) 6 (nI n1))) 7 (upd (A 7) r0 d)) 17 (s1)) 21 (h1)) 22 (p1)) 23 (g1)) 24 (h2))) j best hrg (by omega) (by omega)) g_mo_86 ⟨rfl, w_mo_isBefore⟩ ⟨(Nat.le_of_ble_eq_true rfl), (Nat.le_of_ble_eq_true rfl)⟩ rfl 0 rfl rfl rfl (Nat.le_of_ble_eq_true rfl) ⟨rfl, rfl⟩ ⟨Nat.zero_le _, Nat.zero_le _⟩ (fun r u hu => ?_)
                            obtain ⟨rfl, rfl⟩ := hu
                            refine jj_if_eq X d_mo_load_181 188 184 (by decide) rfl (fun c181 => ?_) (fun c181 => ?_)
                            · have c181 : bfI A (nI j) (nI best) = 0 := c181
                              refine jj_iinc (v := nI (j + 1)) (lv' := [(0, .ref (q 0)), (1, .int (nI r0)), (2, .int d), (3, .int (nI c0)), (4, .int 1), (5, .int (nI (lst g i))), (6, .int (nI best)), (7, .int (nI (j + 1)))]) X d_mo_load_188 191 rfl 7 rfl (ar_inc _) (by decide) rfl rfl ?_
                              refine jj_goto X d_mo_load_191 96 (by decide) ?_
                              exact ih96 ((j + 1, best)) (⟨by simp only; omega, by simp only; omega, by simp only; omega, by simp only; rw [← hg9, x_mn_s hjn]; simp [pDu, ltB, c118, c133, c149, hl0, c165, hb0, c181]⟩) (by simp only; omega)
                            · have c181 : ¬ bfI A (nI j) (nI best) = 0 := c181
                              refine jj_iload X d_mo_load_184 186 rfl 7 rfl ?_
                              refine jj_istore (lv' := [(0, .ref (q 0)), (1, .int (nI r0)), (2, .int d), (3, .int (nI c0)), (4, .int 1), (5, .int (nI (lst g i))), (6, .int (nI j)), (7, .int (nI j))]) X d_mo_load_186 188 rfl (by decide) rfl rfl ?_
                              refine jj_iinc (v := nI (j + 1)) (lv' := [(0, .ref (q 0)), (1, .int (nI r0)), (2, .int d), (3, .int (nI c0)), (4, .int 1), (5, .int (nI (lst g i))), (6, .int (nI j)), (7, .int (nI (j + 1)))]) X d_mo_load_188 191 rfl 7 rfl (ar_inc _) (by decide) rfl rfl ?_
                              refine jj_goto X d_mo_load_191 96 (by decide) ?_
                              exact ih96 ((j + 1, j)) (⟨by simp only; omega, by simp only; omega, by simp only; omega, by simp only; rw [← hg9, x_mn_s hjn]; simp [pDu, ltB, c118, c133, c149, hl0, c165, hb0, c181]⟩) (by simp only; omega)
          · have hL : nL = 60 := nI_eqD c50 (by omega) (by omega)
            refine jj_iconst (v := 0) X d_mo_load_53 54 rfl (by decide) ?_
            exact jj_iret X hr hlk d_mo_load_54 (⟨by simp [s_loadM, okL, nI_clamp (show r0 < 2 ^ 31 by omega), c10, c17, c26, c41, hL], by simp [s_loadM, okL, nI_clamp (show r0 < 2 ^ 31 by omega), c10, c17, c26, c41, hL]; rfl⟩)
