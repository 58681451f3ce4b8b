set_option maxRecDepth 100000 in
set_option maxHeartbeats 4000000 in
theorem c_mo_send (l : Launch) (D : va_G) (cI cZ : ClassId) (q : Nat → Nat) (A : Rows) (nP : Nat) (nR : Nat) (nX : Nat) (nC : Nat) (nS : Nat) (x y d : Int32) (hnP : A 0 0 = nI nP) (hlP : nP ≤ 12) (hnR : A 0 1 = nI nR) (hlR : nR ≤ 40) (hnX : A 0 2 = nI nX) (hlX : nX ≤ 60) (hnC : A 0 3 = nI nC) (hlC : nC ≤ 60) (hnS : A 0 4 = nI nS) (hlS : nS ≤ 150) (hrg : rgM A) : mt_I l D cls_ [(cI, .int), (cZ, .boolean)] nst_ y_mo_send (Cond.code y_mo_send b_mo_send 8 (some .int) :: gt_) (rmd 2) [.ref (q 0), .int x, .int y, .int d] (mw cI cZ q A) (fun r u => r = (s_sendM A nP nR nX nC nS x y d).1 ∧ u = mw cI cZ q (s_sendM A nP nR nX nC nS x y d).2) := by
  refine mt_I_of (by decide) (Nat.le_of_ble_eq_true rfl) ?_
  intro p e s m below meth c AA X hr hlk
  refine jj_lve (lv' := [(0, .ref (q 0)), (1, .int x), (2, .int y), (3, .int d)]) rfl ?_
  refine jj_aload_n X d_mo_send_0 1 rfl 0 rfl ?_
  refine jj_iconst (v := 0) X d_mo_send_1 2 rfl (by decide) ?_
  refine jj_put (ty := .int) (ws' := mw cI cZ q ((ua A 0 (uz (A 0) 7 0)))) X d_mo_send_2 5 rfl i_mo t_mo t_mo_ok n_mo 0 f_mo_38 0 rfl rfl (by decide) rfl rfl (by decide +kernel) rfl rfl (Nat.le_of_ble_eq_true rfl) rfl ?_
  refine jj_aload_n X d_mo_send_5 6 rfl 0 rfl ?_
  refine jj_iload_n X d_mo_send_6 7 rfl 1 rfl ?_
  refine jj_callV0 (st := []) X d_mo_send_7 10 rfl (c_mo_isCopy l D cI cZ q ((ua A 0 (uz (A 0) 7 0))) nC x hnC hlC) g_mo_72 ⟨rfl, w_mo_isCopy⟩ ⟨(Nat.le_of_ble_eq_true rfl), (Nat.le_of_ble_eq_true rfl)⟩ rfl 0 rfl rfl rfl (Nat.le_of_ble_eq_true rfl) ⟨rfl, rfl⟩ ⟨Nat.zero_le _, Nat.zero_le _⟩ (fun r u hu => ?_)
  obtain ⟨rfl, rfl⟩ := hu
  refine jj_if_eq X d_mo_send_10 63 13 (by decide) rfl (fun c10 => ?_) (fun c10 => ?_)
  · have c10 := b2_f c10
    refine jj_iconst (v := 0) X d_mo_send_63 64 rfl (by decide) ?_
    exact jj_iret X hr hlk d_mo_send_64 (⟨by simp [s_sendM, okS, c10], by simp [s_sendM, okS, c10]; rfl⟩)
  · have c10 := b2_t c10
    obtain ⟨k, hk1, hk, rfl⟩ := h1_k c10 (by omega)
    refine jj_aload_n X d_mo_send_13 14 rfl 0 rfl ?_
    refine jj_iload_n X d_mo_send_14 15 rfl 2 rfl ?_
    refine jj_callV0 (st := []) X d_mo_send_15 18 rfl (c_mo_isPlace l D cI cZ q ((ua A 0 (uz (A 0) 7 0))) nP y hnP hlP) g_mo_55 ⟨rfl, w_mo_isPlace⟩ ⟨(Nat.le_of_ble_eq_true rfl), (Nat.le_of_ble_eq_true rfl)⟩ rfl 0 rfl rfl rfl (Nat.le_of_ble_eq_true rfl) ⟨rfl, rfl⟩ ⟨Nat.zero_le _, Nat.zero_le _⟩ (fun r u hu => ?_)
    obtain ⟨rfl, rfl⟩ := hu
    refine jj_if_eq X d_mo_send_18 63 21 (by decide) rfl (fun c18 => ?_) (fun c18 => ?_)
    · have c18 := b2_f c18
      refine jj_iconst (v := 0) X d_mo_send_63 64 rfl (by decide) ?_
      exact jj_iret X hr hlk d_mo_send_64 (⟨by simp [s_sendM, okS, nI_clamp (show k < 2 ^ 31 by omega), c10, c18], by simp [s_sendM, okS, nI_clamp (show k < 2 ^ 31 by omega), c10, c18]; rfl⟩)
    · have c18 := b2_t c18
      have hy : vp_in y 12 := hN_in c18 (by rw [nI_toInt (by omega)]; omega)
      refine jj_iload_n X d_mo_send_21 22 rfl 3 rfl ?_
      refine jj_callS0 (st := []) X d_mo_send_22 25 rfl (c_mo_isDay l D cI cZ q ((ua A 0 (uz (A 0) 7 0))) d) g_mo_65 ⟨rfl, w_mo_isDay⟩ ⟨(Nat.le_of_ble_eq_true rfl), (Nat.le_of_ble_eq_true rfl)⟩ rfl rfl (Nat.le_of_ble_eq_true rfl) ⟨rfl, rfl⟩ ⟨Nat.zero_le _, Nat.zero_le _⟩ (fun r u hu => ?_)
      obtain ⟨rfl, rfl⟩ := hu
      refine jj_if_eq X d_mo_send_25 63 28 (by decide) rfl (fun c25 => ?_) (fun c25 => ?_)
      · have c25 := b2_f c25
        refine jj_iconst (v := 0) X d_mo_send_63 64 rfl (by decide) ?_
        exact jj_iret X hr hlk d_mo_send_64 (⟨by simp [s_sendM, okS, nI_clamp (show k < 2 ^ 31 by omega), c10, c18, c25], by simp [s_sendM, okS, nI_clamp (show k < 2 ^ 31 by omega), c10, c18, c25]; rfl⟩)
      · have c25 := b2_t c25
        obtain ⟨t, ht, rfl⟩ := dC_of c25
        refine jj_aload_n X d_mo_send_28 29 rfl 0 rfl ?_
        refine jj_get (v := .ref (q 5)) X d_mo_send_29 32 rfl i_mo 9 f_mo_23 0 rfl rfl (by decide) rfl rfl ?_
        refine jj_iconst (v := 3) X d_mo_send_32 33 rfl (by decide) ?_
        refine jj_iload_n X d_mo_send_33 34 rfl 1 rfl ?_
        refine jj_imul X d_mo_send_34 35 rfl ?_
        refine jj_topv (y := nI (3 * k)) (pk_mul 3 _) ?_
        refine jj_iconst (v := 2) X d_mo_send_35 36 rfl (by decide) ?_
        refine jj_iadd X d_mo_send_36 37 rfl ?_
        refine jj_topv (y := nI (3 * k + 2)) (nI_add _ 2) ?_
        refine jj_iald (v := A 12 k) X d_mo_send_37 38 rfl 5 0 rfl rfl (vp_in_nI (by omega) (by omega)) ((ar_cl (by omega)).trans (mxr3_2 _)) ?_
        refine jj_if_ne X d_mo_send_38 63 41 (by decide) rfl (fun c38 => ?_) (fun c38 => ?_)
        · refine jj_iconst (v := 0) X d_mo_send_63 64 rfl (by decide) ?_
          exact jj_iret X hr hlk d_mo_send_64 (⟨by simp [s_sendM, okS, nI_clamp (show k < 2 ^ 31 by omega), c10, c18, c25, c38], by simp [s_sendM, okS, nI_clamp (show k < 2 ^ 31 by omega), c10, c18, c25, c38]; rfl⟩)
        · refine jj_aload_n X d_mo_send_41 42 rfl 0 rfl ?_
          refine jj_get (v := .ref (q 5)) X d_mo_send_42 45 rfl i_mo 9 f_mo_23 0 rfl rfl (by decide) rfl rfl ?_
          refine jj_iconst (v := 3) X d_mo_send_45 46 rfl (by decide) ?_
          refine jj_iload_n X d_mo_send_46 47 rfl 1 rfl ?_
          refine jj_imul X d_mo_send_47 48 rfl ?_
          refine jj_topv (y := nI (3 * k)) (pk_mul 3 _) ?_
          refine jj_iald (v := A 11 k) X d_mo_send_48 49 rfl 5 0 rfl rfl (vp_in_nI (by omega) (by omega)) ((ar_cl (by omega)).trans (mxr3_0 _)) ?_
          refine jj_iload_n X d_mo_send_49 50 rfl 2 rfl ?_
          refine jj_icmp_eq X d_mo_send_50 63 53 (by decide) rfl (fun c50 => ?_) (fun c50 => ?_)
          · refine jj_iconst (v := 0) X d_mo_send_63 64 rfl (by decide) ?_
            exact jj_iret X hr hlk d_mo_send_64 (⟨by simp [s_sendM, okS, nI_clamp (show k < 2 ^ 31 by omega), c10, c18, c25, c38, c50], by simp [s_sendM, okS, nI_clamp (show k < 2 ^ 31 by omega), c10, c18, c25, c38, c50]; rfl⟩)
          · refine jj_aload_n X d_mo_send_53 54 rfl 0 rfl ?_
            refine jj_get (v := .int (nI nS)) X d_mo_send_54 57 rfl i_mo 12 f_mo_51 0 rfl rfl (by decide) rfl (by rw [← hnS]; rfl) ?_
            refine jj_sipush (v := 150) X d_mo_send_57 60 rfl (by decide) ?_
            refine jj_icmp_ne X d_mo_send_60 65 63 (by decide) rfl (fun c60 => ?_) (fun c60 => ?_)
            · have hS : nS ≠ 150 := nI_neD c60
              refine jj_aload_n X d_mo_send_65 66 rfl 0 rfl ?_
              refine jj_get (v := .ref (q 1)) X d_mo_send_66 69 rfl i_mo 2 f_mo_7 0 rfl rfl (by decide) rfl rfl ?_
              refine jj_iload_n X d_mo_send_69 70 rfl 2 rfl ?_
              refine jj_zald (v := A 1 y.toNatClampNeg) X d_mo_send_70 71 rfl 1 1 rfl rfl (hy) (rfl) ?_
              refine jj_if_eq X d_mo_send_71 77 74 (by decide) rfl (fun c71 => ?_) (fun c71 => ?_)
              · refine jj_iconst (v := -1) X d_mo_send_77 78 rfl (by decide) ?_
                refine jj_istore (lv' := [(0, .ref (q 0)), (1, .int (nI k)), (2, .int y), (3, .int (nI t)), (4, .int (-1))]) X d_mo_send_78 80 rfl (by decide) rfl rfl ?_
                refine jj_iconst (v := 0) X d_mo_send_80 81 rfl (by decide) ?_
                refine jj_istore (lv' := [(0, .ref (q 0)), (1, .int (nI k)), (2, .int y), (3, .int (nI t)), (4, .int (-1)), (5, .int 0)]) X d_mo_send_81 83 rfl (by decide) rfl rfl ?_
                refine jj_iconst (v := 0) X d_mo_send_83 84 rfl (by decide) ?_
                refine jj_istore (lv' := [(0, .ref (q 0)), (1, .int (nI k)), (2, .int y), (3, .int (nI t)), (4, .int (-1)), (5, .int 0), (6, .int 0)]) X d_mo_send_84 86 rfl (by decide) rfl rfl ?_
                refine jj_loop (fun ((j, best, bd) : Nat × Int32 × Int32) => j ≤ nR ∧ (best = -1 ∨ ∃ i, i < j ∧ best = nI i) ∧ x_qm A nX (A 11 k) y (eS A (nI k) (nI t)) (nR - j) j best bd = x_qm A nX (A 11 k) y (eS A (nI k) (nI t)) nR 0 (-1) 0) (fun ((j, best, bd) : Nat × Int32 × Int32) => nR - j) (fun ((j, best, bd) : Nat × Int32 × Int32) => [(0, .ref (q 0)), (1, .int (nI k)), (2, .int y), (3, .int (nI t)), (4, .int best), (5, .int bd), (6, .int (nI j))]) (fun ((j, best, bd) : Nat × Int32 × Int32) => []) (fun ((j, best, bd) : Nat × Int32 × Int32) => mw cI cZ q ((ua A 0 (uz (A 0) 7 0)))) ((0, -1, 0)) (⟨Nat.zero_le _, Or.inl rfl, rfl⟩) rfl rfl rfl ?_
                rintro ⟨j, best, bd⟩ hI ih86
                try dsimp only at hI ih86 ⊢
                obtain ⟨hj, hb, hf⟩ := hI
                refine jj_iload X d_mo_send_86 88 rfl 6 rfl ?_
                refine jj_aload_n X d_mo_send_88 89 rfl 0 rfl ?_
                refine jj_get (v := .int (nI nR)) X d_mo_send_89 92 rfl i_mo 3 f_mo_45 0 rfl rfl (by decide) rfl (by rw [← hnR]; rfl) ?_
                refine jj_icmp_ge X d_mo_send_92 234 95 (by decide) rfl (fun c92 => ?_) (fun c92 => ?_)
                · have hjn : j = nR := Nat.le_antisymm hj (nI_leD c92 (by omega) (by omega))
                  rw [hjn, Nat.sub_self] at hf
                  have hf2 : (best, bd) = x_qm A nX (A 11 k) y (eS A (nI k) (nI t)) nR 0 (-1) 0 := hf
                  have hq := x_qm_k (A := A) (n := nX) (a := A 11 k) (b := y) (e := (eS A (nI k) (nI t))) nR 0 (-1) 0 (by omega) (Or.inl rfl)
                  rw [← hf2] at hq
                  have hbs : bS A nR nX (nI k) y (nI t) = best := by rw [bS, nI_clamp (show k < 2 ^ 31 by omega), x_qk_0 nR 0 0 (0 + A 5 (-1 : Int32).toNatClampNeg)]; exact hq.1.symm
                  refine jj_iload X d_mo_send_234 236 rfl 4 rfl ?_
                  refine jj_iconst (v := -1) X d_mo_send_236 237 rfl (by decide) ?_
                  refine jj_icmp_ne X d_mo_send_237 243 240 (by decide) rfl (fun c237 => ?_) (fun c237 => ?_)
                  · have hbd := hq.2.resolve_left c237
                    obtain ⟨i, hi, rfl⟩ := hb.resolve_left c237
                    refine jj_aload_n X d_mo_send_243 244 rfl 0 rfl ?_
                    refine jj_dup X d_mo_send_244 245 rfl rfl ?_
                    refine jj_get (v := .int (nI nS)) X d_mo_send_245 248 rfl i_mo 12 f_mo_51 0 rfl rfl (by decide) rfl (by rw [← hnS]; rfl) ?_
                    refine jj_iconst (v := 1) X d_mo_send_248 249 rfl (by decide) ?_
                    refine jj_iadd X d_mo_send_249 250 rfl ?_
                    refine jj_topv (y := nI (nS + 1)) (nI_1 _) ?_
                    refine jj_put (ty := .int) (ws' := mw cI cZ q ((ua A 0 (uz (uz (A 0) 7 0) 4 (nI (nS + 1)))))) X d_mo_send_250 253 rfl i_mo t_mo t_mo_ok n_mo 12 f_mo_51 0 rfl rfl (by decide) rfl rfl (by decide +kernel) rfl rfl (Nat.le_of_ble_eq_true rfl) rfl ?_
                    refine jj_bipush (v := 8) X d_mo_send_253 255 rfl (by decide) ?_
                    refine jj_aload_n X d_mo_send_255 256 rfl 0 rfl ?_
                    refine jj_get (v := .int (nI (nS + 1))) X d_mo_send_256 259 rfl i_mo 12 f_mo_51 0 rfl rfl (by decide) rfl rfl ?_
                    refine jj_imul X d_mo_send_259 260 rfl ?_
                    refine jj_topv (y := nI (8 * (nS + 1))) (pk_mul 8 _) ?_
                    refine jj_istore (lv' := [(0, .ref (q 0)), (1, .int (nI k)), (2, .int y), (3, .int (nI t)), (4, .int (nI i)), (5, .int bd), (6, .int (nI (8 * (nS + 1))))]) X d_mo_send_260 262 rfl (by decide) rfl rfl ?_
                    refine jj_aload_n X d_mo_send_262 263 rfl 0 rfl ?_
                    refine jj_get (v := .ref (q 8)) X d_mo_send_263 266 rfl i_mo 13 f_mo_32 0 rfl rfl (by decide) rfl rfl ?_
                    refine jj_iload X d_mo_send_266 268 rfl 6 rfl ?_
                    refine jj_iload_n X d_mo_send_268 269 rfl 1 rfl ?_
                    refine jj_iast (ws' := mw cI cZ q ((ua (ua A 0 (uz (uz (A 0) 7 0) 4 (nI (nS + 1)))) 15 (upd (A 15) ((nS + 1)) (nI k))))) X d_mo_send_269 270 rfl 8 0 rfl rfl (vp_in_nI (by omega) (by omega)) (by rw [nI_clamp (by omega)]; exact congrArg (fun z => List.set (mw cI cZ q ((ua A 0 (uz (uz (A 0) 7 0) 4 (nI (nS + 1)))))) 8 (q 8, .inl (cI, 1208, .inl z))) (mxu8_0 _ _)) ?_
                    refine jj_aload_n X d_mo_send_270 271 rfl 0 rfl ?_
                    refine jj_get (v := .ref (q 8)) X d_mo_send_271 274 rfl i_mo 13 f_mo_32 0 rfl rfl (by decide) rfl rfl ?_
                    refine jj_iload X d_mo_send_274 276 rfl 6 rfl ?_
                    refine jj_iconst (v := 1) X d_mo_send_276 277 rfl (by decide) ?_
                    refine jj_iadd X d_mo_send_277 278 rfl ?_
                    refine jj_topv (y := nI (8 * (nS + 1) + 1)) (nI_1 _) ?_
                    refine jj_iload X d_mo_send_278 280 rfl 4 rfl ?_
                    refine jj_iast (ws' := mw cI cZ q ((ua (ua (ua A 0 (uz (uz (A 0) 7 0) 4 (nI (nS + 1)))) 15 (upd (A 15) ((nS + 1)) (nI k))) 16 (upd (A 16) ((nS + 1)) (nI i))))) X d_mo_send_280 281 rfl 8 0 rfl rfl (vp_in_nI (by omega) (by omega)) (by rw [nI_clamp (by omega)]; exact congrArg (fun z => List.set (mw cI cZ q ((ua (ua A 0 (uz (uz (A 0) 7 0) 4 (nI (nS + 1)))) 15 (upd (A 15) ((nS + 1)) (nI k))))) 8 (q 8, .inl (cI, 1208, .inl z))) (mxu8_1 _ _)) ?_
                    refine jj_aload_n X d_mo_send_281 282 rfl 0 rfl ?_
                    refine jj_get (v := .ref (q 8)) X d_mo_send_282 285 rfl i_mo 13 f_mo_32 0 rfl rfl (by decide) rfl rfl ?_
                    refine jj_iload X d_mo_send_285 287 rfl 6 rfl ?_
                    refine jj_iconst (v := 3) X d_mo_send_287 288 rfl (by decide) ?_
                    refine jj_iadd X d_mo_send_288 289 rfl ?_
                    refine jj_topv (y := nI (8 * (nS + 1) + 3)) (nI_add _ 3) ?_
                    refine jj_iload_n X d_mo_send_289 290 rfl 3 rfl ?_
                    refine jj_iast (ws' := mw cI cZ q ((ua (ua (ua (ua A 0 (uz (uz (A 0) 7 0) 4 (nI (nS + 1)))) 15 (upd (A 15) ((nS + 1)) (nI k))) 16 (upd (A 16) ((nS + 1)) (nI i))) 18 (upd (A 18) ((nS + 1)) (nI t))))) X d_mo_send_290 291 rfl 8 0 rfl rfl (vp_in_nI (by omega) (by omega)) (by rw [nI_clamp (by omega)]; exact congrArg (fun z => List.set (mw cI cZ q ((ua (ua (ua A 0 (uz (uz (A 0) 7 0) 4 (nI (nS + 1)))) 15 (upd (A 15) ((nS + 1)) (nI k))) 16 (upd (A 16) ((nS + 1)) (nI i))))) 8 (q 8, .inl (cI, 1208, .inl z))) (mxu8_3 _ _)) ?_
                    refine jj_aload_n X d_mo_send_291 292 rfl 0 rfl ?_
                    refine jj_get (v := .ref (q 8)) X d_mo_send_292 295 rfl i_mo 13 f_mo_32 0 rfl rfl (by decide) rfl rfl ?_
                    refine jj_iload X d_mo_send_295 297 rfl 6 rfl ?_
                    refine jj_iconst (v := 4) X d_mo_send_297 298 rfl (by decide) ?_
                    refine jj_iadd X d_mo_send_298 299 rfl ?_
                    refine jj_topv (y := nI (8 * (nS + 1) + 4)) (nI_add _ 4) ?_
                    refine jj_iload X d_mo_send_299 301 rfl 5 rfl ?_
                    refine jj_iast (ws' := mw cI cZ q ((ua (ua (ua (ua (ua A 0 (uz (uz (A 0) 7 0) 4 (nI (nS + 1)))) 15 (upd (A 15) ((nS + 1)) (nI k))) 16 (upd (A 16) ((nS + 1)) (nI i))) 18 (upd (A 18) ((nS + 1)) (nI t))) 19 (upd (A 19) ((nS + 1)) bd)))) X d_mo_send_301 302 rfl 8 0 rfl rfl (vp_in_nI (by omega) (by omega)) (by rw [nI_clamp (by omega)]; exact congrArg (fun z => List.set (mw cI cZ q ((ua (ua (ua (ua A 0 (uz (uz (A 0) 7 0) 4 (nI (nS + 1)))) 15 (upd (A 15) ((nS + 1)) (nI k))) 16 (upd (A 16) ((nS + 1)) (nI i))) 18 (upd (A 18) ((nS + 1)) (nI t))))) 8 (q 8, .inl (cI, 1208, .inl z))) (mxu8_4 _ _)) ?_
                    refine jj_aload_n X d_mo_send_302 303 rfl 0 rfl ?_
                    refine jj_get (v := .ref (q 8)) X d_mo_send_303 306 rfl i_mo 13 f_mo_32 0 rfl rfl (by decide) rfl rfl ?_
                    refine jj_iload X d_mo_send_306 308 rfl 6 rfl ?_
                    refine jj_iconst (v := 5) X d_mo_send_308 309 rfl (by decide) ?_
                    refine jj_iadd X d_mo_send_309 310 rfl ?_
                    refine jj_topv (y := nI (8 * (nS + 1) + 5)) (nI_add _ 5) ?_
                    refine jj_iconst (v := -1) X d_mo_send_310 311 rfl (by decide) ?_
                    refine jj_iast (ws' := mw cI cZ q ((ua (ua (ua (ua (ua (ua A 0 (uz (uz (A 0) 7 0) 4 (nI (nS + 1)))) 15 (upd (A 15) ((nS + 1)) (nI k))) 16 (upd (A 16) ((nS + 1)) (nI i))) 18 (upd (A 18) ((nS + 1)) (nI t))) 19 (upd (A 19) ((nS + 1)) bd)) 20 (upd (A 20) ((nS + 1)) (-1))))) X d_mo_send_311 312 rfl 8 0 rfl rfl (vp_in_nI (by omega) (by omega)) (by rw [nI_clamp (by omega)]; exact congrArg (fun z => List.set (mw cI cZ q ((ua (ua (ua (ua (ua A 0 (uz (uz (A 0) 7 0) 4 (nI (nS + 1)))) 15 (upd (A 15) ((nS + 1)) (nI k))) 16 (upd (A 16) ((nS + 1)) (nI i))) 18 (upd (A 18) ((nS + 1)) (nI t))) 19 (upd (A 19) ((nS + 1)) bd)))) 8 (q 8, .inl (cI, 1208, .inl z))) (mxu8_5 _ _)) ?_
                    refine jj_aload_n X d_mo_send_312 313 rfl 0 rfl ?_
                    refine jj_get (v := .ref (q 5)) X d_mo_send_313 316 rfl i_mo 9 f_mo_23 0 rfl rfl (by decide) rfl rfl ?_
                    refine jj_iconst (v := 3) X d_mo_send_316 317 rfl (by decide) ?_
                    refine jj_iload_n X d_mo_send_317 318 rfl 1 rfl ?_
                    refine jj_imul X d_mo_send_318 319 rfl ?_
                    refine jj_topv (y := nI (3 * k)) (pk_mul 3 _) ?_
                    refine jj_iconst (v := -1) X d_mo_send_319 320 rfl (by decide) ?_
                    refine jj_iast (ws' := mw cI cZ q ((ua (ua (ua (ua (ua (ua (ua A 0 (uz (uz (A 0) 7 0) 4 (nI (nS + 1)))) 11 (upd (A 11) k (-1))) 15 (upd (A 15) ((nS + 1)) (nI k))) 16 (upd (A 16) ((nS + 1)) (nI i))) 18 (upd (A 18) ((nS + 1)) (nI t))) 19 (upd (A 19) ((nS + 1)) bd)) 20 (upd (A 20) ((nS + 1)) (-1))))) X d_mo_send_320 321 rfl 5 0 rfl rfl (vp_in_nI (by omega) (by omega)) (by rw [nI_clamp (by omega)]; exact congrArg (fun z => List.set (mw cI cZ q ((ua (ua (ua (ua (ua (ua A 0 (uz (uz (A 0) 7 0) 4 (nI (nS + 1)))) 15 (upd (A 15) ((nS + 1)) (nI k))) 16 (upd (A 16) ((nS + 1)) (nI i))) 18 (upd (A 18) ((nS + 1)) (nI t))) 19 (upd (A 19) ((nS + 1)) bd)) 20 (upd (A 20) ((nS + 1)) (-1))))) 5 (q 5, .inl (cI, 183, .inl z))) (mxu3_0 _ _)) ?_
                    refine jj_aload_n X d_mo_send_321 322 rfl 0 rfl ?_
                    refine jj_get (v := .ref (q 5)) X d_mo_send_322 325 rfl i_mo 9 f_mo_23 0 rfl rfl (by decide) rfl rfl ?_
                    refine jj_iconst (v := 3) X d_mo_send_325 326 rfl (by decide) ?_
                    refine jj_iload_n X d_mo_send_326 327 rfl 1 rfl ?_
                    refine jj_imul X d_mo_send_327 328 rfl ?_
                    refine jj_topv (y := nI (3 * k)) (pk_mul 3 _) ?_
                    refine jj_iconst (v := 2) X d_mo_send_328 329 rfl (by decide) ?_
                    refine jj_iadd X d_mo_send_329 330 rfl ?_
                    refine jj_topv (y := nI (3 * k + 2)) (nI_add _ 2) ?_
                    refine jj_aload_n X d_mo_send_330 331 rfl 0 rfl ?_
                    refine jj_get (v := .int (nI (nS + 1))) X d_mo_send_331 334 rfl i_mo 12 f_mo_51 0 rfl rfl (by decide) rfl rfl ?_
                    refine jj_iast (ws' := mw cI cZ q ((ua (ua (ua (ua (ua (ua (ua (ua A 0 (uz (uz (A 0) 7 0) 4 (nI (nS + 1)))) 11 (upd (A 11) k (-1))) 12 (upd (A 12) k (nI (nS + 1)))) 15 (upd (A 15) ((nS + 1)) (nI k))) 16 (upd (A 16) ((nS + 1)) (nI i))) 18 (upd (A 18) ((nS + 1)) (nI t))) 19 (upd (A 19) ((nS + 1)) bd)) 20 (upd (A 20) ((nS + 1)) (-1))))) X d_mo_send_334 335 rfl 5 0 rfl rfl (vp_in_nI (by omega) (by omega)) (by rw [nI_clamp (by omega)]; exact congrArg (fun z => List.set (mw cI cZ q ((ua (ua (ua (ua (ua (ua (ua A 0 (uz (uz (A 0) 7 0) 4 (nI (nS + 1)))) 11 (upd (A 11) k (-1))) 15 (upd (A 15) ((nS + 1)) (nI k))) 16 (upd (A 16) ((nS + 1)) (nI i))) 18 (upd (A 18) ((nS + 1)) (nI t))) 19 (upd (A 19) ((nS + 1)) bd)) 20 (upd (A 20) ((nS + 1)) (-1))))) 5 (q 5, .inl (cI, 183, .inl z))) (mxu3_2 _ _)) ?_
                    refine jj_aload_n X d_mo_send_335 336 rfl 0 rfl ?_
                    refine jj_get (v := .int (nI (nS + 1))) X d_mo_send_336 339 rfl i_mo 12 f_mo_51 0 rfl rfl (by decide) rfl rfl ?_
                    exact jj_iret X hr hlk d_mo_send_339 (⟨by simp [s_sendM, okS, nI_clamp (show k < 2 ^ 31 by omega), nI_clamp (show t < 2 ^ 31 by omega), c10, c18, c25, c38, c50, hS, c71, hbs, c237], by simp only at hbd; simp [s_sendM, okS, nI_clamp (show k < 2 ^ 31 by omega), nI_clamp (show t < 2 ^ 31 by omega), c10, c18, c25, c38, c50, hS, c71, hbs, c237, hbd]⟩)
                  · refine jj_bipush (v := -3) X d_mo_send_240 242 rfl (by decide) ?_
                    exact jj_iret X hr hlk d_mo_send_242 (⟨by simp [s_sendM, okS, nI_clamp (show k < 2 ^ 31 by omega), nI_clamp (show t < 2 ^ 31 by omega), c10, c18, c25, c38, c50, hS, c71, hbs, c237], by simp [s_sendM, okS, nI_clamp (show k < 2 ^ 31 by omega), nI_clamp (show t < 2 ^ 31 by omega), c10, c18, c25, c38, c50, hS, c71, hbs, c237]; rfl⟩)
                · have hjn : j < nR := nI_nleD c92 (by omega) (by omega)
                  refine jj_aload_n X d_mo_send_95 96 rfl 0 rfl ?_
                  refine jj_get (v := .ref (q 2)) X d_mo_send_96 99 rfl i_mo 4 f_mo_13 0 rfl rfl (by decide) rfl rfl ?_
                  refine jj_bipush (v := 6) X d_mo_send_99 101 rfl (by decide) ?_
                  refine jj_iload X d_mo_send_101 103 rfl 6 rfl ?_
                  refine jj_imul X d_mo_send_103 104 rfl ?_
                  refine jj_topv (y := nI (6 * j)) (pk_mul 6 _) ?_
                  refine jj_iald (v := A 2 j) X d_mo_send_104 105 rfl 2 0 rfl rfl (vp_in_nI (by omega) (by omega)) ((ar_cl (by omega)).trans (mxr6_0 _)) ?_
                  refine jj_aload_n X d_mo_send_105 106 rfl 0 rfl ?_
                  refine jj_get (v := .ref (q 5)) X d_mo_send_106 109 rfl i_mo 9 f_mo_23 0 rfl rfl (by decide) rfl rfl ?_
                  refine jj_iconst (v := 3) X d_mo_send_109 110 rfl (by decide) ?_
                  refine jj_iload_n X d_mo_send_110 111 rfl 1 rfl ?_
                  refine jj_imul X d_mo_send_111 112 rfl ?_
                  refine jj_topv (y := nI (3 * k)) (pk_mul 3 _) ?_
                  refine jj_iald (v := A 11 k) X d_mo_send_112 113 rfl 5 0 rfl rfl (vp_in_nI (by omega) (by omega)) ((ar_cl (by omega)).trans (mxr3_0 _)) ?_
                  refine jj_icmp_ne X d_mo_send_113 228 116 (by decide) rfl (fun c113 => ?_) (fun c113 => ?_)
                  · have hjo : joC A (nI j) (A 11 k) y = false := by simp [joC, nI_clamp (show j < 2 ^ 31 by omega), c113]
                    refine jj_iinc (v := nI (j + 1)) (lv' := [(0, .ref (q 0)), (1, .int (nI k)), (2, .int y), (3, .int (nI t)), (4, .int best), (5, .int bd), (6, .int (nI (j + 1)))]) X d_mo_send_228 231 rfl 6 rfl (ar_inc _) (by decide) rfl rfl ?_
                    refine jj_goto X d_mo_send_231 86 (by decide) ?_
                    exact ih86 ((j + 1, best, bd)) (⟨by simp only; omega, hb.imp id (fun ⟨i9, p9, q9⟩ => ⟨i9, by simp only; omega, q9⟩), by simp only; rw [← hf, x_qm_s hjn]; simp [hjo]⟩) (by simp only; omega)
                  · refine jj_aload_n X d_mo_send_116 117 rfl 0 rfl ?_
                    refine jj_get (v := .ref (q 2)) X d_mo_send_117 120 rfl i_mo 4 f_mo_13 0 rfl rfl (by decide) rfl rfl ?_
                    refine jj_bipush (v := 6) X d_mo_send_120 122 rfl (by decide) ?_
                    refine jj_iload X d_mo_send_122 124 rfl 6 rfl ?_
                    refine jj_imul X d_mo_send_124 125 rfl ?_
                    refine jj_topv (y := nI (6 * j)) (pk_mul 6 _) ?_
                    refine jj_iconst (v := 1) X d_mo_send_125 126 rfl (by decide) ?_
                    refine jj_iadd X d_mo_send_126 127 rfl ?_
                    refine jj_topv (y := nI (6 * j + 1)) (nI_1 _) ?_
                    refine jj_iald (v := A 3 j) X d_mo_send_127 128 rfl 2 0 rfl rfl (vp_in_nI (by omega) (by omega)) ((ar_cl (by omega)).trans (mxr6_1 _)) ?_
                    refine jj_iload_n X d_mo_send_128 129 rfl 2 rfl ?_
                    refine jj_icmp_ne X d_mo_send_129 228 132 (by decide) rfl (fun c129 => ?_) (fun c129 => ?_)
                    · have hjo : joC A (nI j) (A 11 k) y = false := by simp [joC, nI_clamp (show j < 2 ^ 31 by omega), c113, c129]
                      refine jj_iinc (v := nI (j + 1)) (lv' := [(0, .ref (q 0)), (1, .int (nI k)), (2, .int y), (3, .int (nI t)), (4, .int best), (5, .int bd), (6, .int (nI (j + 1)))]) X d_mo_send_228 231 rfl 6 rfl (ar_inc _) (by decide) rfl rfl ?_
                      refine jj_goto X d_mo_send_231 86 (by decide) ?_
                      exact ih86 ((j + 1, best, bd)) (⟨by simp only; omega, hb.imp id (fun ⟨i9, p9, q9⟩ => ⟨i9, by simp only; omega, q9⟩), by simp only; rw [← hf, x_qm_s hjn]; simp [hjo]⟩) (by simp only; omega)
                    · have hjo : joC A (nI j) (A 11 k) y = true := by simp [joC, nI_clamp (show j < 2 ^ 31 by omega), c113, c129]
                      refine jj_aload_n X d_mo_send_132 133 rfl 0 rfl ?_
                      refine jj_get (v := .ref (q 6)) X d_mo_send_133 136 rfl i_mo 10 f_mo_26 0 rfl rfl (by decide) rfl rfl ?_
                      refine jj_iload_n X d_mo_send_136 137 rfl 1 rfl ?_
                      refine jj_zald (v := A 13 k) X d_mo_send_137 138 rfl 6 1 rfl rfl (vp_in_nI (by omega) (by omega)) (ar_cl (by omega)) ?_
                      refine jj_if_eq X d_mo_send_138 145 141 (by decide) rfl (fun c138 => ?_) (fun c138 => ?_)
                      · have hes : (eS A (nI k) (nI t)) = t + 1 := by simp only [eS, nI_clamp (show k < 2 ^ 31 by omega), nI_clamp (show t < 2 ^ 31 by omega), c138, if_true]
                        refine jj_iload_n X d_mo_send_145 146 rfl 3 rfl ?_
                        refine jj_iconst (v := 1) X d_mo_send_146 147 rfl (by decide) ?_
                        refine jj_iadd X d_mo_send_147 148 rfl ?_
                        refine jj_topv (y := nI (t + 1)) (nI_1 _) ?_
                        refine jj_istore (lv' := [(0, .ref (q 0)), (1, .int (nI k)), (2, .int y), (3, .int (nI t)), (4, .int best), (5, .int bd), (6, .int (nI j)), (7, .int (nI (t + 1)))]) X d_mo_send_148 150 rfl (by decide) rfl rfl ?_
                        refine jj_loop (fun (v0 : Nat) => v0 ≤ 100000 ∧ x_fst A nX (nI j) (100000 - v0) v0 = x_fst A nX (nI j) (100000 - (eS A (nI k) (nI t))) (eS A (nI k) (nI t))) (fun (v0 : Nat) => 100000 - v0) (fun (v0 : Nat) => [(0, .ref (q 0)), (1, .int (nI k)), (2, .int y), (3, .int (nI t)), (4, .int best), (5, .int bd), (6, .int (nI j)), (7, .int (nI v0))]) (fun (v0 : Nat) => []) (fun (v0 : Nat) => mw cI cZ q ((ua A 0 (uz (A 0) 7 0)))) (t + 1) (⟨by omega, by rw [hes]⟩) rfl rfl rfl ?_
                        rintro v0 hI ih150
                        try dsimp only at hI ih150 ⊢
                        obtain ⟨hv0, hg⟩ := hI
                        refine jj_iload X d_mo_send_150 152 rfl 7 rfl ?_
                        refine jj_ldc (v := 100000) X d_mo_send_152 154 rfl o_mo_54 ?_
                        refine jj_icmp_ge X d_mo_send_154 174 157 (by decide) rfl (fun c154 => ?_) (fun c154 => ?_)
                        · have hvn : v0 = 100000 := by have := nI_leD (a := 100000) c154 (by omega) (by omega); omega
                          have hfst : x_fst A nX (nI j) (100000 - (eS A (nI k) (nI t))) (eS A (nI k) (nI t)) = -1 := by rw [← hg, hvn]; rfl
                          refine jj_iload X d_mo_send_174 176 rfl 7 rfl ?_
                          refine jj_ldc (v := 100000) X d_mo_send_176 178 rfl o_mo_54 ?_
                          refine jj_icmp_ge X d_mo_send_178 228 181 (by decide) rfl (fun c178 => ?_) (fun c178 => ?_)
                          · refine jj_iinc (v := nI (j + 1)) (lv' := [(0, .ref (q 0)), (1, .int (nI k)), (2, .int y), (3, .int (nI t)), (4, .int best), (5, .int bd), (6, .int (nI (j + 1))), (7, .int (nI v0))]) X d_mo_send_228 231 rfl 6 rfl (ar_inc _) (by decide) rfl rfl ?_
                            refine jj_goto X d_mo_send_231 86 (by decide) ?_
                            refine jj_lvs (lv' := [(0, .ref (q 0)), (1, .int (nI k)), (2, .int y), (3, .int (nI t)), (4, .int best), (5, .int bd), (6, .int (nI (j + 1)))]) (by simp) ?_
                            exact ih86 ((j + 1, best, bd)) (⟨by simp only; omega, hb.imp id (fun ⟨i9, p9, q9⟩ => ⟨i9, by simp only; omega, q9⟩), by simp only; rw [← hf, x_qm_s hjn]; simp [hjo, hfst]⟩) (by simp only; omega)
                          · exact absurd c154 c178
                        · have hvn : v0 < 100000 := nI_nleD (a := 100000) c154 (by omega) (by omega)
                          refine jj_aload_n X d_mo_send_157 158 rfl 0 rfl ?_
                          refine jj_iload X d_mo_send_158 160 rfl 6 rfl ?_
                          refine jj_iload X d_mo_send_160 162 rfl 7 rfl ?_
                          refine jj_callV0 (st := []) X d_mo_send_162 165 rfl (c_mo_runs l D cI cZ q ((ua A 0 (uz (A 0) 7 0))) nX j (nI v0) hnX hlX (by omega)) g_mo_75 ⟨rfl, w_mo_runs⟩ ⟨(Nat.le_of_ble_eq_true rfl), (Nat.le_of_ble_eq_true rfl)⟩ rfl 0 rfl rfl rfl (Nat.le_of_ble_eq_true rfl) ⟨rfl, rfl⟩ ⟨Nat.zero_le _, Nat.zero_le _⟩ (fun r u hu => ?_)
                          obtain ⟨rfl, rfl⟩ := hu
                          refine jj_if_ne X d_mo_send_165 174 168 (by decide) rfl (fun c165 => ?_) (fun c165 => ?_)
                          · have c165 := b2_t c165
                            have c165 : ruC A nX (nI j) (nI v0) = true := c165
                            have hfst : x_fst A nX (nI j) (100000 - (eS A (nI k) (nI t))) (eS A (nI k) (nI t)) = nI v0 := by rw [← hg, x_fst_s hvn, if_pos c165]
                            refine jj_iload X d_mo_send_174 176 rfl 7 rfl ?_
                            refine jj_ldc (v := 100000) X d_mo_send_176 178 rfl o_mo_54 ?_
                            refine jj_icmp_ge X d_mo_send_178 228 181 (by decide) rfl (fun c178 => ?_) (fun c178 => ?_)
                            · exact absurd c178 c154
                            · refine jj_iload X d_mo_send_181 183 rfl 4 rfl ?_
                              refine jj_iconst (v := -1) X d_mo_send_183 184 rfl (by decide) ?_
                              refine jj_icmp_eq X d_mo_send_184 220 187 (by decide) rfl (fun c184 => ?_) (fun c184 => ?_)
                              · refine jj_iload X d_mo_send_220 222 rfl 6 rfl ?_
                                refine jj_istore (lv' := [(0, .ref (q 0)), (1, .int (nI k)), (2, .int y), (3, .int (nI t)), (4, .int (nI j)), (5, .int bd), (6, .int (nI j)), (7, .int (nI v0))]) X d_mo_send_222 224 rfl (by decide) rfl rfl ?_
                                refine jj_iload X d_mo_send_224 226 rfl 7 rfl ?_
                                refine jj_istore (lv' := [(0, .ref (q 0)), (1, .int (nI k)), (2, .int y), (3, .int (nI t)), (4, .int (nI j)), (5, .int (nI v0)), (6, .int (nI j)), (7, .int (nI v0))]) X d_mo_send_226 228 rfl (by decide) rfl rfl ?_
                                refine jj_iinc (v := nI (j + 1)) (lv' := [(0, .ref (q 0)), (1, .int (nI k)), (2, .int y), (3, .int (nI t)), (4, .int (nI j)), (5, .int (nI v0)), (6, .int (nI (j + 1))), (7, .int (nI v0))]) X d_mo_send_228 231 rfl 6 rfl (ar_inc _) (by decide) rfl rfl ?_
                                refine jj_goto X d_mo_send_231 86 (by decide) ?_
                                refine jj_lvs (lv' := [(0, .ref (q 0)), (1, .int (nI k)), (2, .int y), (3, .int (nI t)), (4, .int (nI j)), (5, .int (nI v0)), (6, .int (nI (j + 1)))]) (by simp) ?_
                                exact ih86 ((j + 1, nI j, nI v0)) (⟨by simp only; omega, Or.inr ⟨j, by simp only; omega, rfl⟩, by simp only; rw [← hf, x_qm_s hjn]; simp [hjo, hfst, nI_nm1 (show v0 < 2 ^ 31 by omega), c184]⟩) (by simp only; omega)
                              · obtain ⟨i, hi, rfl⟩ := hb.resolve_left c184
                                refine jj_iload X d_mo_send_187 189 rfl 7 rfl ?_
                                refine jj_aload_n X d_mo_send_189 190 rfl 0 rfl ?_
                                refine jj_get (v := .ref (q 2)) X d_mo_send_190 193 rfl i_mo 4 f_mo_13 0 rfl rfl (by decide) rfl rfl ?_
                                refine jj_bipush (v := 6) X d_mo_send_193 195 rfl (by decide) ?_
                                refine jj_iload X d_mo_send_195 197 rfl 6 rfl ?_
                                refine jj_imul X d_mo_send_197 198 rfl ?_
                                refine jj_topv (y := nI (6 * j)) (pk_mul 6 _) ?_
                                refine jj_iconst (v := 3) X d_mo_send_198 199 rfl (by decide) ?_
                                refine jj_iadd X d_mo_send_199 200 rfl ?_
                                refine jj_topv (y := nI (6 * j + 3)) (nI_add _ 3) ?_
                                refine jj_iald (v := A 5 j) X d_mo_send_200 201 rfl 2 0 rfl rfl (vp_in_nI (by omega) (by omega)) ((ar_cl (by omega)).trans (mxr6_3 _)) ?_
                                refine jj_iadd X d_mo_send_201 202 rfl ?_
                                refine jj_iload X d_mo_send_202 204 rfl 5 rfl ?_
                                refine jj_aload_n X d_mo_send_204 205 rfl 0 rfl ?_
                                refine jj_get (v := .ref (q 2)) X d_mo_send_205 208 rfl i_mo 4 f_mo_13 0 rfl rfl (by decide) rfl rfl ?_
                                refine jj_bipush (v := 6) X d_mo_send_208 210 rfl (by decide) ?_
                                refine jj_iload X d_mo_send_210 212 rfl 4 rfl ?_
                                refine jj_imul X d_mo_send_212 213 rfl ?_
                                refine jj_topv (y := nI (6 * i)) (pk_mul 6 _) ?_
                                refine jj_iconst (v := 3) X d_mo_send_213 214 rfl (by decide) ?_
                                refine jj_iadd X d_mo_send_214 215 rfl ?_
                                refine jj_topv (y := nI (6 * i + 3)) (nI_add _ 3) ?_
                                refine jj_iald (v := A 5 i) X d_mo_send_215 216 rfl 2 0 rfl rfl (vp_in_nI (by omega) (by omega)) ((ar_cl (by omega)).trans (mxr6_3 _)) ?_
                                refine jj_iadd X d_mo_send_216 217 rfl ?_
                                refine jj_icmp_ge X d_mo_send_217 228 220 (by decide) rfl (fun c217 => ?_) (fun c217 => ?_)
                                · have c217 := Int32.not_lt.mpr c217
                                  refine jj_iinc (v := nI (j + 1)) (lv' := [(0, .ref (q 0)), (1, .int (nI k)), (2, .int y), (3, .int (nI t)), (4, .int (nI i)), (5, .int bd), (6, .int (nI (j + 1))), (7, .int (nI v0))]) X d_mo_send_228 231 rfl 6 rfl (ar_inc _) (by decide) rfl rfl ?_
                                  refine jj_goto X d_mo_send_231 86 (by decide) ?_
                                  refine jj_lvs (lv' := [(0, .ref (q 0)), (1, .int (nI k)), (2, .int y), (3, .int (nI t)), (4, .int (nI i)), (5, .int bd), (6, .int (nI (j + 1)))]) (by simp) ?_
                                  exact ih86 ((j + 1, nI i, bd)) (⟨by simp only; omega, hb.imp id (fun ⟨i9, p9, q9⟩ => ⟨i9, by simp only; omega, q9⟩), by simp only; rw [← hf, x_qm_s hjn]; simp [hjo, hfst, nI_nm1 (show v0 < 2 ^ 31 by omega), c184, c217, nI_clamp (show i < 2 ^ 31 by omega)]⟩) (by simp only; omega)
                                · have c217 := Int32.not_le.mp c217
                                  refine jj_iload X d_mo_send_220 222 rfl 6 rfl ?_
                                  refine jj_istore (lv' := [(0, .ref (q 0)), (1, .int (nI k)), (2, .int y), (3, .int (nI t)), (4, .int (nI j)), (5, .int bd), (6, .int (nI j)), (7, .int (nI v0))]) X d_mo_send_222 224 rfl (by decide) rfl rfl ?_
                                  refine jj_iload X d_mo_send_224 226 rfl 7 rfl ?_
                                  refine jj_istore (lv' := [(0, .ref (q 0)), (1, .int (nI k)), (2, .int y), (3, .int (nI t)), (4, .int (nI j)), (5, .int (nI v0)), (6, .int (nI j)), (7, .int (nI v0))]) X d_mo_send_226 228 rfl (by decide) rfl rfl ?_
                                  refine jj_iinc (v := nI (j + 1)) (lv' := [(0, .ref (q 0)), (1, .int (nI k)), (2, .int y), (3, .int (nI t)), (4, .int (nI j)), (5, .int (nI v0)), (6, .int (nI (j + 1))), (7, .int (nI v0))]) X d_mo_send_228 231 rfl 6 rfl (ar_inc _) (by decide) rfl rfl ?_
                                  refine jj_goto X d_mo_send_231 86 (by decide) ?_
                                  refine jj_lvs (lv' := [(0, .ref (q 0)), (1, .int (nI k)), (2, .int y), (3, .int (nI t)), (4, .int (nI j)), (5, .int (nI v0)), (6, .int (nI (j + 1)))]) (by simp) ?_
                                  exact ih86 ((j + 1, nI j, nI v0)) (⟨by simp only; omega, Or.inr ⟨j, by simp only; omega, rfl⟩, by simp only; rw [← hf, x_qm_s hjn]; simp [hjo, hfst, nI_nm1 (show v0 < 2 ^ 31 by omega), c184, c217, nI_clamp (show i < 2 ^ 31 by omega)]⟩) (by simp only; omega)
                          · have c165 := b2_f c165
                            have c165 : ruC A nX (nI j) (nI v0) = false := c165
                            refine jj_iinc (v := nI (v0 + 1)) (lv' := [(0, .ref (q 0)), (1, .int (nI k)), (2, .int y), (3, .int (nI t)), (4, .int best), (5, .int bd), (6, .int (nI j)), (7, .int (nI (v0 + 1)))]) X d_mo_send_168 171 rfl 7 rfl (ar_inc _) (by decide) rfl rfl ?_
                            refine jj_goto X d_mo_send_171 150 (by decide) ?_
                            exact ih150 (v0 + 1) (⟨by omega, by rw [← hg, x_fst_s hvn, if_neg (by simp [c165])]⟩) (by omega)
                      · have hes : (eS A (nI k) (nI t)) = t := by simp only [eS, nI_clamp (show k < 2 ^ 31 by omega), nI_clamp (show t < 2 ^ 31 by omega), c138, if_false]
                        refine jj_iload_n X d_mo_send_141 142 rfl 3 rfl ?_
                        refine jj_goto X d_mo_send_142 148 (by decide) ?_
                        refine jj_istore (lv' := [(0, .ref (q 0)), (1, .int (nI k)), (2, .int y), (3, .int (nI t)), (4, .int best), (5, .int bd), (6, .int (nI j)), (7, .int (nI t))]) X d_mo_send_148 150 rfl (by decide) rfl rfl ?_
                        refine jj_loop (fun (v0 : Nat) => v0 ≤ 100000 ∧ x_fst A nX (nI j) (100000 - v0) v0 = x_fst A nX (nI j) (100000 - (eS A (nI k) (nI t))) (eS A (nI k) (nI t))) (fun (v0 : Nat) => 100000 - v0) (fun (v0 : Nat) => [(0, .ref (q 0)), (1, .int (nI k)), (2, .int y), (3, .int (nI t)), (4, .int best), (5, .int bd), (6, .int (nI j)), (7, .int (nI v0))]) (fun (v0 : Nat) => []) (fun (v0 : Nat) => mw cI cZ q ((ua A 0 (uz (A 0) 7 0)))) (t) (⟨by omega, by rw [hes]⟩) rfl rfl rfl ?_
                        rintro v0 hI ih150
                        try dsimp only at hI ih150 ⊢
                        obtain ⟨hv0, hg⟩ := hI
                        refine jj_iload X d_mo_send_150 152 rfl 7 rfl ?_
                        refine jj_ldc (v := 100000) X d_mo_send_152 154 rfl o_mo_54 ?_
                        refine jj_icmp_ge X d_mo_send_154 174 157 (by decide) rfl (fun c154 => ?_) (fun c154 => ?_)
                        · have hvn : v0 = 100000 := by have := nI_leD (a := 100000) c154 (by omega) (by omega); omega
                          have hfst : x_fst A nX (nI j) (100000 - (eS A (nI k) (nI t))) (eS A (nI k) (nI t)) = -1 := by rw [← hg, hvn]; rfl
                          refine jj_iload X d_mo_send_174 176 rfl 7 rfl ?_
                          refine jj_ldc (v := 100000) X d_mo_send_176 178 rfl o_mo_54 ?_
                          refine jj_icmp_ge X d_mo_send_178 228 181 (by decide) rfl (fun c178 => ?_) (fun c178 => ?_)
                          · refine jj_iinc (v := nI (j + 1)) (lv' := [(0, .ref (q 0)), (1, .int (nI k)), (2, .int y), (3, .int (nI t)), (4, .int best), (5, .int bd), (6, .int (nI (j + 1))), (7, .int (nI v0))]) X d_mo_send_228 231 rfl 6 rfl (ar_inc _) (by decide) rfl rfl ?_
                            refine jj_goto X d_mo_send_231 86 (by decide) ?_
                            refine jj_lvs (lv' := [(0, .ref (q 0)), (1, .int (nI k)), (2, .int y), (3, .int (nI t)), (4, .int best), (5, .int bd), (6, .int (nI (j + 1)))]) (by simp) ?_
                            exact ih86 ((j + 1, best, bd)) (⟨by simp only; omega, hb.imp id (fun ⟨i9, p9, q9⟩ => ⟨i9, by simp only; omega, q9⟩), by simp only; rw [← hf, x_qm_s hjn]; simp [hjo, hfst]⟩) (by simp only; omega)
                          · exact absurd c154 c178
                        · have hvn : v0 < 100000 := nI_nleD (a := 100000) c154 (by omega) (by omega)
                          refine jj_aload_n X d_mo_send_157 158 rfl 0 rfl ?_
                          refine jj_iload X d_mo_send_158 160 rfl 6 rfl ?_
                          refine jj_iload X d_mo_send_160 162 rfl 7 rfl ?_
                          refine jj_callV0 (st := []) X d_mo_send_162 165 rfl (c_mo_runs l D cI cZ q ((ua A 0 (uz (A 0) 7 0))) nX j (nI v0) hnX hlX (by omega)) g_mo_75 ⟨rfl, w_mo_runs⟩ ⟨(Nat.le_of_ble_eq_true rfl), (Nat.le_of_ble_eq_true rfl)⟩ rfl 0 rfl rfl rfl (Nat.le_of_ble_eq_true rfl) ⟨rfl, rfl⟩ ⟨Nat.zero_le _, Nat.zero_le _⟩ (fun r u hu => ?_)
                          obtain ⟨rfl, rfl⟩ := hu
                          refine jj_if_ne X d_mo_send_165 174 168 (by decide) rfl (fun c165 => ?_) (fun c165 => ?_)
                          · have c165 := b2_t c165
                            have c165 : ruC A nX (nI j) (nI v0) = true := c165
                            have hfst : x_fst A nX (nI j) (100000 - (eS A (nI k) (nI t))) (eS A (nI k) (nI t)) = nI v0 := by rw [← hg, x_fst_s hvn, if_pos c165]
                            refine jj_iload X d_mo_send_174 176 rfl 7 rfl ?_
                            refine jj_ldc (v := 100000) X d_mo_send_176 178 rfl o_mo_54 ?_
                            refine jj_icmp_ge X d_mo_send_178 228 181 (by decide) rfl (fun c178 => ?_) (fun c178 => ?_)
                            · exact absurd c178 c154
                            · refine jj_iload X d_mo_send_181 183 rfl 4 rfl ?_
                              refine jj_iconst (v := -1) X d_mo_send_183 184 rfl (by decide) ?_
                              refine jj_icmp_eq X d_mo_send_184 220 187 (by decide) rfl (fun c184 => ?_) (fun c184 => ?_)
                              · refine jj_iload X d_mo_send_220 222 rfl 6 rfl ?_
                                refine jj_istore (lv' := [(0, .ref (q 0)), (1, .int (nI k)), (2, .int y), (3, .int (nI t)), (4, .int (nI j)), (5, .int bd), (6, .int (nI j)), (7, .int (nI v0))]) X d_mo_send_222 224 rfl (by decide) rfl rfl ?_
                                refine jj_iload X d_mo_send_224 226 rfl 7 rfl ?_
                                refine jj_istore (lv' := [(0, .ref (q 0)), (1, .int (nI k)), (2, .int y), (3, .int (nI t)), (4, .int (nI j)), (5, .int (nI v0)), (6, .int (nI j)), (7, .int (nI v0))]) X d_mo_send_226 228 rfl (by decide) rfl rfl ?_
                                refine jj_iinc (v := nI (j + 1)) (lv' := [(0, .ref (q 0)), (1, .int (nI k)), (2, .int y), (3, .int (nI t)), (4, .int (nI j)), (5, .int (nI v0)), (6, .int (nI (j + 1))), (7, .int (nI v0))]) X d_mo_send_228 231 rfl 6 rfl (ar_inc _) (by decide) rfl rfl ?_
                                refine jj_goto X d_mo_send_231 86 (by decide) ?_
                                refine jj_lvs (lv' := [(0, .ref (q 0)), (1, .int (nI k)), (2, .int y), (3, .int (nI t)), (4, .int (nI j)), (5, .int (nI v0)), (6, .int (nI (j + 1)))]) (by simp) ?_
                                exact ih86 ((j + 1, nI j, nI v0)) (⟨by simp only; omega, Or.inr ⟨j, by simp only; omega, rfl⟩, by simp only; rw [← hf, x_qm_s hjn]; simp [hjo, hfst, nI_nm1 (show v0 < 2 ^ 31 by omega), c184]⟩) (by simp only; omega)
                              · obtain ⟨i, hi, rfl⟩ := hb.resolve_left c184
                                refine jj_iload X d_mo_send_187 189 rfl 7 rfl ?_
                                refine jj_aload_n X d_mo_send_189 190 rfl 0 rfl ?_
                                refine jj_get (v := .ref (q 2)) X d_mo_send_190 193 rfl i_mo 4 f_mo_13 0 rfl rfl (by decide) rfl rfl ?_
                                refine jj_bipush (v := 6) X d_mo_send_193 195 rfl (by decide) ?_
                                refine jj_iload X d_mo_send_195 197 rfl 6 rfl ?_
                                refine jj_imul X d_mo_send_197 198 rfl ?_
                                refine jj_topv (y := nI (6 * j)) (pk_mul 6 _) ?_
                                refine jj_iconst (v := 3) X d_mo_send_198 199 rfl (by decide) ?_
                                refine jj_iadd X d_mo_send_199 200 rfl ?_
                                refine jj_topv (y := nI (6 * j + 3)) (nI_add _ 3) ?_
                                refine jj_iald (v := A 5 j) X d_mo_send_200 201 rfl 2 0 rfl rfl (vp_in_nI (by omega) (by omega)) ((ar_cl (by omega)).trans (mxr6_3 _)) ?_
                                refine jj_iadd X d_mo_send_201 202 rfl ?_
                                refine jj_iload X d_mo_send_202 204 rfl 5 rfl ?_
                                refine jj_aload_n X d_mo_send_204 205 rfl 0 rfl ?_
                                refine jj_get (v := .ref (q 2)) X d_mo_send_205 208 rfl i_mo 4 f_mo_13 0 rfl rfl (by decide) rfl rfl ?_
                                refine jj_bipush (v := 6) X d_mo_send_208 210 rfl (by decide) ?_
                                refine jj_iload X d_mo_send_210 212 rfl 4 rfl ?_
                                refine jj_imul X d_mo_send_212 213 rfl ?_
                                refine jj_topv (y := nI (6 * i)) (pk_mul 6 _) ?_
                                refine jj_iconst (v := 3) X d_mo_send_213 214 rfl (by decide) ?_
                                refine jj_iadd X d_mo_send_214 215 rfl ?_
                                refine jj_topv (y := nI (6 * i + 3)) (nI_add _ 3) ?_
                                refine jj_iald (v := A 5 i) X d_mo_send_215 216 rfl 2 0 rfl rfl (vp_in_nI (by omega) (by omega)) ((ar_cl (by omega)).trans (mxr6_3 _)) ?_
                                refine jj_iadd X d_mo_send_216 217 rfl ?_
                                refine jj_icmp_ge X d_mo_send_217 228 220 (by decide) rfl (fun c217 => ?_) (fun c217 => ?_)
                                · have c217 := Int32.not_lt.mpr c217
                                  refine jj_iinc (v := nI (j + 1)) (lv' := [(0, .ref (q 0)), (1, .int (nI k)), (2, .int y), (3, .int (nI t)), (4, .int (nI i)), (5, .int bd), (6, .int (nI (j + 1))), (7, .int (nI v0))]) X d_mo_send_228 231 rfl 6 rfl (ar_inc _) (by decide) rfl rfl ?_
                                  refine jj_goto X d_mo_send_231 86 (by decide) ?_
                                  refine jj_lvs (lv' := [(0, .ref (q 0)), (1, .int (nI k)), (2, .int y), (3, .int (nI t)), (4, .int (nI i)), (5, .int bd), (6, .int (nI (j + 1)))]) (by simp) ?_
                                  exact ih86 ((j + 1, nI i, bd)) (⟨by simp only; omega, hb.imp id (fun ⟨i9, p9, q9⟩ => ⟨i9, by simp only; omega, q9⟩), by simp only; rw [← hf, x_qm_s hjn]; simp [hjo, hfst, nI_nm1 (show v0 < 2 ^ 31 by omega), c184, c217, nI_clamp (show i < 2 ^ 31 by omega)]⟩) (by simp only; omega)
                                · have c217 := Int32.not_le.mp c217
                                  refine jj_iload X d_mo_send_220 222 rfl 6 rfl ?_
                                  refine jj_istore (lv' := [(0, .ref (q 0)), (1, .int (nI k)), (2, .int y), (3, .int (nI t)), (4, .int (nI j)), (5, .int bd), (6, .int (nI j)), (7, .int (nI v0))]) X d_mo_send_222 224 rfl (by decide) rfl rfl ?_
                                  refine jj_iload X d_mo_send_224 226 rfl 7 rfl ?_
                                  refine jj_istore (lv' := [(0, .ref (q 0)), (1, .int (nI k)), (2, .int y), (3, .int (nI t)), (4, .int (nI j)), (5, .int (nI v0)), (6, .int (nI j)), (7, .int (nI v0))]) X d_mo_send_226 228 rfl (by decide) rfl rfl ?_
                                  refine jj_iinc (v := nI (j + 1)) (lv' := [(0, .ref (q 0)), (1, .int (nI k)), (2, .int y), (3, .int (nI t)), (4, .int (nI j)), (5, .int (nI v0)), (6, .int (nI (j + 1))), (7, .int (nI v0))]) X d_mo_send_228 231 rfl 6 rfl (ar_inc _) (by decide) rfl rfl ?_
                                  refine jj_goto X d_mo_send_231 86 (by decide) ?_
                                  refine jj_lvs (lv' := [(0, .ref (q 0)), (1, .int (nI k)), (2, .int y), (3, .int (nI t)), (4, .int (nI j)), (5, .int (nI v0)), (6, .int (nI (j + 1)))]) (by simp) ?_
                                  exact ih86 ((j + 1, nI j, nI v0)) (⟨by simp only; omega, Or.inr ⟨j, by simp only; omega, rfl⟩, by simp only; rw [← hf, x_qm_s hjn]; simp [hjo, hfst, nI_nm1 (show v0 < 2 ^ 31 by omega), c184, c217, nI_clamp (show i < 2 ^ 31 by omega)]⟩) (by simp only; omega)
                          · have c165 := b2_f c165
                            have c165 : ruC A nX (nI j) (nI v0) = false := c165
                            refine jj_iinc (v := nI (v0 + 1)) (lv' := [(0, .ref (q 0)), (1, .int (nI k)), (2, .int y), (3, .int (nI t)), (4, .int best), (5, .int bd), (6, .int (nI j)), (7, .int (nI (v0 + 1)))]) X d_mo_send_168 171 rfl 7 rfl (ar_inc _) (by decide) rfl rfl ?_
                            refine jj_goto X d_mo_send_171 150 (by decide) ?_
                            exact ih150 (v0 + 1) (⟨by omega, by rw [← hg, x_fst_s hvn, if_neg (by simp [c165])]⟩) (by omega)
              · refine jj_bipush (v := -2) X d_mo_send_74 76 rfl (by decide) ?_
                exact jj_iret X hr hlk d_mo_send_76 (⟨by simp [s_sendM, okS, nI_clamp (show k < 2 ^ 31 by omega), nI_clamp (show t < 2 ^ 31 by omega), c10, c18, c25, c38, c50, hS, c71], by simp [s_sendM, okS, nI_clamp (show k < 2 ^ 31 by omega), nI_clamp (show t < 2 ^ 31 by omega), c10, c18, c25, c38, c50, hS, c71]; rfl⟩)
            · have hS : nS = 150 := nI_eqD c60 (by omega) (by omega)
              refine jj_iconst (v := 0) X d_mo_send_63 64 rfl (by decide) ?_
              exact jj_iret X hr hlk d_mo_send_64 (⟨by simp [s_sendM, okS, nI_clamp (show k < 2 ^ 31 by omega), c10, c18, c25, c38, c50, hS], by simp [s_sendM, okS, nI_clamp (show k < 2 ^ 31 by omega), c10, c18, c25, c38, c50, hS]; rfl⟩)
set_option maxRecDepth 100000 in
set_option maxHeartbeats 4000000 in
theorem c_mo_missing (l : Launch) (D : va_G) (cI cZ : ClassId) (q : Nat → Nat) (A : Rows) (nS : Nat) (x i : Int32) (hnS : A 0 4 = nI nS) (hlS : nS ≤ 150) : mt_I l D cls_ [(cI, .int), (cZ, .boolean)] nst_ y_mo_missing (Cond.code y_mo_missing b_mo_missing 6 (some .int) :: gt_) (rmd 0) [.ref (q 0), .int x, .int i] (mw cI cZ q A) (fun r u => r = (if x ≤ 0 ∨ i < 0 then 0 else x_miM A nS x i 99 0 0) ∧ u = mw cI cZ q (T0 A)) := by
  refine mt_I_of (by decide) (Nat.le_of_ble_eq_true rfl) ?_
  intro p e s m below meth c AA X hr hlk
  refine jj_lve (lv' := [(0, .ref (q 0)), (1, .int x), (2, .int i)]) rfl ?_
  refine jj_aload_n X d_mo_missing_0 1 rfl 0 rfl ?_
  refine jj_iconst (v := 0) X d_mo_missing_1 2 rfl (by decide) ?_
  refine jj_put (ty := .int) (ws' := mw cI cZ q ((ua A 0 (uz (A 0) 7 0)))) X d_mo_missing_2 5 rfl i_mo t_mo t_mo_ok n_mo 0 f_mo_38 0 rfl rfl (by decide) rfl rfl (by decide +kernel) rfl rfl (Nat.le_of_ble_eq_true rfl) rfl ?_
  refine jj_iconst (v := 0) X d_mo_missing_5 6 rfl (by decide) ?_
  refine jj_istore_n (lv' := [(0, .ref (q 0)), (1, .int x), (2, .int i), (3, .int 0)]) X d_mo_missing_6 7 rfl (by decide) rfl rfl ?_
  refine jj_iconst (v := 0) X d_mo_missing_7 8 rfl (by decide) ?_
  refine jj_istore (lv' := [(0, .ref (q 0)), (1, .int x), (2, .int i), (3, .int 0), (4, .int 0)]) X d_mo_missing_8 10 rfl (by decide) rfl rfl ?_
  refine jj_loop (fun ((p, b0) : Nat × Int32) => p ≤ 99 ∧ x_miM A nS x i (99 - p) p b0 = x_miM A nS x i 99 0 0) (fun ((p, b0) : Nat × Int32) => 99 - p) (fun ((p, b0) : Nat × Int32) => [(0, .ref (q 0)), (1, .int x), (2, .int i), (3, .int b0), (4, .int (nI p))]) (fun ((p, b0) : Nat × Int32) => []) (fun ((p, b0) : Nat × Int32) => mw cI cZ q ((ua A 0 (uz (A 0) 7 0)))) ((0, 0)) (⟨Nat.zero_le _, rfl⟩) rfl rfl rfl ?_
  rintro ⟨p, b0⟩ hI ih10
  try dsimp only at hI ih10 ⊢
  obtain ⟨hp, hf⟩ := hI
  refine jj_iload X d_mo_missing_10 12 rfl 4 rfl ?_
  refine jj_bipush (v := 99) X d_mo_missing_12 14 rfl (by decide) ?_
  refine jj_icmp_ge X d_mo_missing_14 127 17 (by decide) rfl (fun c14 => ?_) (fun c14 => ?_)
  · have hpn : p = 99 := by have := nI_leD (a := 99) c14 (by omega) (by omega); omega
    refine jj_iconst (v := 0) X d_mo_missing_127 128 rfl (by decide) ?_
    exact jj_iret X hr hlk d_mo_missing_128 (⟨by rw [← hf, hpn]; simp [x_miM], rfl⟩)
  · have hpn : p < 99 := nI_nleD (a := 99) c14 (by omega) (by omega)
    refine jj_iload_n X d_mo_missing_17 18 rfl 1 rfl ?_
    refine jj_if_le X d_mo_missing_18 127 21 (by decide) rfl (fun c18 => ?_) (fun c18 => ?_)
    · refine jj_iconst (v := 0) X d_mo_missing_127 128 rfl (by decide) ?_
      exact jj_iret X hr hlk d_mo_missing_128 (⟨by rw [if_pos (Or.inl c18)], rfl⟩)
    · refine jj_iload_n X d_mo_missing_21 22 rfl 2 rfl ?_
      refine jj_if_lt X d_mo_missing_22 127 25 (by decide) rfl (fun c22 => ?_) (fun c22 => ?_)
      · refine jj_iconst (v := 0) X d_mo_missing_127 128 rfl (by decide) ?_
        exact jj_iret X hr hlk d_mo_missing_128 (⟨by rw [if_pos (Or.inr c22)], rfl⟩)
      · refine jj_iconst (v := 1) X d_mo_missing_25 26 rfl (by decide) ?_
        refine jj_istore (lv' := [(0, .ref (q 0)), (1, .int x), (2, .int i), (3, .int b0), (4, .int (nI p)), (5, .int 1)]) X d_mo_missing_26 28 rfl (by decide) rfl rfl ?_
        refine jj_loop (fun ((j, b1) : Nat × Int32) => 1 ≤ j ∧ j ≤ nS + 1 ∧ x_miJ A x i p (nS + 1 - j) j b1 = x_miJ A x i p nS 1 b0) (fun ((j, b1) : Nat × Int32) => nS + 1 - j) (fun ((j, b1) : Nat × Int32) => [(0, .ref (q 0)), (1, .int x), (2, .int i), (3, .int b1), (4, .int (nI p)), (5, .int (nI j))]) (fun ((j, b1) : Nat × Int32) => []) (fun ((j, b1) : Nat × Int32) => mw cI cZ q ((ua A 0 (uz (A 0) 7 0)))) ((1, b0)) (⟨Nat.le_refl _, by simp, rfl⟩) rfl rfl rfl ?_
        rintro ⟨j, b1⟩ hI ih28
        try dsimp only at hI ih28 ⊢
        obtain ⟨hj1, hj, hg⟩ := hI
        refine jj_iload X d_mo_missing_28 30 rfl 5 rfl ?_
        refine jj_aload_n X d_mo_missing_30 31 rfl 0 rfl ?_
        refine jj_get (v := .int (nI nS)) X d_mo_missing_31 34 rfl i_mo 12 f_mo_51 0 rfl rfl (by decide) rfl (by rw [← hnS]; rfl) ?_
        refine jj_icmp_gt X d_mo_missing_34 121 37 (by decide) rfl (fun c34 => ?_) (fun c34 => ?_)
        · have hjn : j = nS + 1 := by have := nI_ltD c34 (by omega) (by omega); omega
          refine jj_iinc (v := nI (p + 1)) (lv' := [(0, .ref (q 0)), (1, .int x), (2, .int i), (3, .int b1), (4, .int (nI (p + 1))), (5, .int (nI j))]) X d_mo_missing_121 124 rfl 4 rfl (ar_inc _) (by decide) rfl rfl ?_
          refine jj_goto X d_mo_missing_124 10 (by decide) ?_
          refine jj_lvs (lv' := [(0, .ref (q 0)), (1, .int x), (2, .int i), (3, .int b1), (4, .int (nI (p + 1)))]) (by simp) ?_
          exact ih10 ((p + 1, b1)) (⟨by simp only; omega, by simp only; rw [← hf, x_miM_s hpn, ← hg, hjn, Nat.sub_self]; rfl⟩) (by simp only; omega)
        · have hjn : j ≤ nS := nI_nltD c34 (by omega) (by omega)
          refine jj_aload_n X d_mo_missing_37 38 rfl 0 rfl ?_
          refine jj_get (v := .ref (q 8)) X d_mo_missing_38 41 rfl i_mo 13 f_mo_32 0 rfl rfl (by decide) rfl rfl ?_
          refine jj_bipush (v := 8) X d_mo_missing_41 43 rfl (by decide) ?_
          refine jj_iload X d_mo_missing_43 45 rfl 5 rfl ?_
          refine jj_imul X d_mo_missing_45 46 rfl ?_
          refine jj_topv (y := nI (8 * j)) (pk_mul 8 _) ?_
          refine jj_bipush (v := 6) X d_mo_missing_46 48 rfl (by decide) ?_
          refine jj_iadd X d_mo_missing_48 49 rfl ?_
          refine jj_topv (y := nI (8 * j + 6)) (nI_add _ 6) ?_
          refine jj_iald (v := A 21 j) X d_mo_missing_49 50 rfl 8 0 rfl rfl (vp_in_nI (by omega) (by omega)) ((ar_cl (by omega)).trans (mxr8_6 _)) ?_
          refine jj_iload_n X d_mo_missing_50 51 rfl 1 rfl ?_
          refine jj_icmp_ne X d_mo_missing_51 115 54 (by decide) rfl (fun c51 => ?_) (fun c51 => ?_)
          · refine jj_iinc (v := nI (j + 1)) (lv' := [(0, .ref (q 0)), (1, .int x), (2, .int i), (3, .int b1), (4, .int (nI p)), (5, .int (nI (j + 1)))]) X d_mo_missing_115 118 rfl 5 rfl (ar_inc _) (by decide) rfl rfl ?_
            refine jj_goto X d_mo_missing_118 28 (by decide) ?_
            exact ih28 ((j + 1, b1)) (⟨by simp only; omega, by simp only; omega, by simp only; rw [← hg, x_miJ_s hjn]; simp [uwC, nI_clamp (show j < 2 ^ 31 by omega), c51]⟩) (by simp only; omega)
          · refine jj_aload_n X d_mo_missing_54 55 rfl 0 rfl ?_
            refine jj_get (v := .ref (q 8)) X d_mo_missing_55 58 rfl i_mo 13 f_mo_32 0 rfl rfl (by decide) rfl rfl ?_
            refine jj_bipush (v := 8) X d_mo_missing_58 60 rfl (by decide) ?_
            refine jj_iload X d_mo_missing_60 62 rfl 5 rfl ?_
            refine jj_imul X d_mo_missing_62 63 rfl ?_
            refine jj_topv (y := nI (8 * j)) (pk_mul 8 _) ?_
            refine jj_bipush (v := 7) X d_mo_missing_63 65 rfl (by decide) ?_
            refine jj_iadd X d_mo_missing_65 66 rfl ?_
            refine jj_topv (y := nI (8 * j + 7)) (nI_add _ 7) ?_
            refine jj_iald (v := A 22 j) X d_mo_missing_66 67 rfl 8 0 rfl rfl (vp_in_nI (by omega) (by omega)) ((ar_cl (by omega)).trans (mxr8_7 _)) ?_
            refine jj_iload X d_mo_missing_67 69 rfl 4 rfl ?_
            refine jj_icmp_ne X d_mo_missing_69 115 72 (by decide) rfl (fun c69 => ?_) (fun c69 => ?_)
            · refine jj_iinc (v := nI (j + 1)) (lv' := [(0, .ref (q 0)), (1, .int x), (2, .int i), (3, .int b1), (4, .int (nI p)), (5, .int (nI (j + 1)))]) X d_mo_missing_115 118 rfl 5 rfl (ar_inc _) (by decide) rfl rfl ?_
              refine jj_goto X d_mo_missing_118 28 (by decide) ?_
              exact ih28 ((j + 1, b1)) (⟨by simp only; omega, by simp only; omega, by simp only; rw [← hg, x_miJ_s hjn]; simp [uwC, nI_clamp (show j < 2 ^ 31 by omega), c51, c69]⟩) (by simp only; omega)
            · refine jj_aload_n X d_mo_missing_72 73 rfl 0 rfl ?_
              refine jj_get (v := .ref (q 8)) X d_mo_missing_73 76 rfl i_mo 13 f_mo_32 0 rfl rfl (by decide) rfl rfl ?_
              refine jj_bipush (v := 8) X d_mo_missing_76 78 rfl (by decide) ?_
              refine jj_iload X d_mo_missing_78 80 rfl 5 rfl ?_
              refine jj_imul X d_mo_missing_80 81 rfl ?_
              refine jj_topv (y := nI (8 * j)) (pk_mul 8 _) ?_
              refine jj_iconst (v := 2) X d_mo_missing_81 82 rfl (by decide) ?_
              refine jj_iadd X d_mo_missing_82 83 rfl ?_
              refine jj_topv (y := nI (8 * j + 2)) (nI_add _ 2) ?_
              refine jj_iald (v := A 17 j) X d_mo_missing_83 84 rfl 8 0 rfl rfl (vp_in_nI (by omega) (by omega)) ((ar_cl (by omega)).trans (mxr8_2 _)) ?_
              refine jj_iconst (v := 1) X d_mo_missing_84 85 rfl (by decide) ?_
              refine jj_icmp_eq X d_mo_missing_85 104 88 (by decide) rfl (fun c85 => ?_) (fun c85 => ?_)
              · refine jj_iload_n X d_mo_missing_104 105 rfl 3 rfl ?_
                refine jj_iload_n X d_mo_missing_105 106 rfl 2 rfl ?_
                refine jj_icmp_ne X d_mo_missing_106 112 109 (by decide) rfl (fun c106 => ?_) (fun c106 => ?_)
                · refine jj_iinc (v := b1 + 1) (lv' := [(0, .ref (q 0)), (1, .int x), (2, .int i), (3, .int (b1 + 1)), (4, .int (nI p)), (5, .int (nI j))]) X d_mo_missing_112 115 rfl 3 rfl rfl (by decide) rfl rfl ?_
                  refine jj_iinc (v := nI (j + 1)) (lv' := [(0, .ref (q 0)), (1, .int x), (2, .int i), (3, .int (b1 + 1)), (4, .int (nI p)), (5, .int (nI (j + 1)))]) X d_mo_missing_115 118 rfl 5 rfl (ar_inc _) (by decide) rfl rfl ?_
                  refine jj_goto X d_mo_missing_118 28 (by decide) ?_
                  exact ih28 ((j + 1, b1 + 1)) (⟨by simp only; omega, by simp only; omega, by simp only; rw [← hg, x_miJ_s hjn]; simp [uwC, nI_clamp (show j < 2 ^ 31 by omega), c51, c69, c85, c106]⟩) (by simp only; omega)
                · refine jj_iload X d_mo_missing_109 111 rfl 5 rfl ?_
                  exact jj_iret X hr hlk d_mo_missing_111 (⟨by rw [if_neg (by simp [c18, c22]), ← hf, x_miM_s hpn, ← hg, x_miJ_s hjn]; simp [uwC, nI_clamp (show j < 2 ^ 31 by omega), c51, c69, c85, c106], rfl⟩)
              · refine jj_aload_n X d_mo_missing_88 89 rfl 0 rfl ?_
                refine jj_get (v := .ref (q 8)) X d_mo_missing_89 92 rfl i_mo 13 f_mo_32 0 rfl rfl (by decide) rfl rfl ?_
                refine jj_bipush (v := 8) X d_mo_missing_92 94 rfl (by decide) ?_
                refine jj_iload X d_mo_missing_94 96 rfl 5 rfl ?_
                refine jj_imul X d_mo_missing_96 97 rfl ?_
                refine jj_topv (y := nI (8 * j)) (pk_mul 8 _) ?_
                refine jj_iconst (v := 2) X d_mo_missing_97 98 rfl (by decide) ?_
                refine jj_iadd X d_mo_missing_98 99 rfl ?_
                refine jj_topv (y := nI (8 * j + 2)) (nI_add _ 2) ?_
                refine jj_iald (v := A 17 j) X d_mo_missing_99 100 rfl 8 0 rfl rfl (vp_in_nI (by omega) (by omega)) ((ar_cl (by omega)).trans (mxr8_2 _)) ?_
                refine jj_iconst (v := 3) X d_mo_missing_100 101 rfl (by decide) ?_
                refine jj_icmp_ne X d_mo_missing_101 115 104 (by decide) rfl (fun c101 => ?_) (fun c101 => ?_)
                · refine jj_iinc (v := nI (j + 1)) (lv' := [(0, .ref (q 0)), (1, .int x), (2, .int i), (3, .int b1), (4, .int (nI p)), (5, .int (nI (j + 1)))]) X d_mo_missing_115 118 rfl 5 rfl (ar_inc _) (by decide) rfl rfl ?_
                  refine jj_goto X d_mo_missing_118 28 (by decide) ?_
                  exact ih28 ((j + 1, b1)) (⟨by simp only; omega, by simp only; omega, by simp only; rw [← hg, x_miJ_s hjn]; simp [uwC, nI_clamp (show j < 2 ^ 31 by omega), c51, c69, c85, c101]⟩) (by simp only; omega)
                · refine jj_iload_n X d_mo_missing_104 105 rfl 3 rfl ?_
                  refine jj_iload_n X d_mo_missing_105 106 rfl 2 rfl ?_
                  refine jj_icmp_ne X d_mo_missing_106 112 109 (by decide) rfl (fun c106 => ?_) (fun c106 => ?_)
                  · refine jj_iinc (v := b1 + 1) (lv' := [(0, .ref (q 0)), (1, .int x), (2, .int i), (3, .int (b1 + 1)), (4, .int (nI p)), (5, .int (nI j))]) X d_mo_missing_112 115 rfl 3 rfl rfl (by decide) rfl rfl ?_
                    refine jj_iinc (v := nI (j + 1)) (lv' := [(0, .ref (q 0)), (1, .int x), (2, .int i), (3, .int (b1 + 1)), (4, .int (nI p)), (5, .int (nI (j + 1)))]) X d_mo_missing_115 118 rfl 5 rfl (ar_inc _) (by decide) rfl rfl ?_
                    refine jj_goto X d_mo_missing_118 28 (by decide) ?_
                    exact ih28 ((j + 1, b1 + 1)) (⟨by simp only; omega, by simp only; omega, by simp only; rw [← hg, x_miJ_s hjn]; simp [uwC, nI_clamp (show j < 2 ^ 31 by omega), c51, c69, c85, c101, c106]⟩) (by simp only; omega)
                  · refine jj_iload X d_mo_missing_109 111 rfl 5 rfl ?_
                    exact jj_iret X hr hlk d_mo_missing_111 (⟨by rw [if_neg (by simp [c18, c22]), ← hf, x_miM_s hpn, ← hg, x_miJ_s hjn]; simp [uwC, nI_clamp (show j < 2 ^ 31 by omega), c51, c69, c85, c101, c106], rfl⟩)
set_option maxRecDepth 100000 in
set_option maxHeartbeats 4000000 in
theorem c_mo_statistics (l : Launch) (D : va_G) (cI cZ : ClassId) (q : Nat → Nat) (A : Rows) (nP : Nat) (nS : Nat) (a b w : Int32) (hnP : A 0 0 = nI nP) (hlP : nP ≤ 12) (hnS : A 0 4 = nI nS) (hlS : nS ≤ 150) (hrg : rgM A) : mt_I l D cls_ [(cI, .int), (cZ, .boolean)] nst_ y_mo_statistics (Cond.code y_mo_statistics b_mo_statistics 10 (some .int) :: gt_) (rmd 1) [.ref (q 0), .int a, .int b, .int w] (mw cI cZ q A) (fun r u => r = (if okT nP a b w = true then o_stM (x_st A a b nS 1 0 0 (-1)) w else -1) ∧ u = mw cI cZ q (if okT nP a b w = true ∧ w = 3 ∧ (x_st A a b nS 1 0 0 (-1)).1 = 0 then ua A 0 (uz (A 0) 7 1) else T0 A)) := by
  refine mt_I_of (by decide) (Nat.le_of_ble_eq_true rfl) ?_
  intro p e s m below meth c AA X hr hlk
  refine jj_lve (lv' := [(0, .ref (q 0)), (1, .int a), (2, .int b), (3, .int w)]) rfl ?_
  refine jj_aload_n X d_mo_statistics_0 1 rfl 0 rfl ?_
  refine jj_iconst (v := 0) X d_mo_statistics_1 2 rfl (by decide) ?_
  refine jj_put (ty := .int) (ws' := mw cI cZ q ((ua A 0 (uz (A 0) 7 0)))) X d_mo_statistics_2 5 rfl i_mo t_mo t_mo_ok n_mo 0 f_mo_38 0 rfl rfl (by decide) rfl rfl (by decide +kernel) rfl rfl (Nat.le_of_ble_eq_true rfl) rfl ?_
  refine jj_aload_n X d_mo_statistics_5 6 rfl 0 rfl ?_
  refine jj_iload_n X d_mo_statistics_6 7 rfl 1 rfl ?_
  refine jj_callV0 (st := []) X d_mo_statistics_7 10 rfl (c_mo_isPlace l D cI cZ q ((ua A 0 (uz (A 0) 7 0))) nP a hnP hlP) g_mo_55 ⟨rfl, w_mo_isPlace⟩ ⟨(Nat.le_of_ble_eq_true rfl), (Nat.le_of_ble_eq_true rfl)⟩ rfl 0 rfl rfl rfl (Nat.le_of_ble_eq_true rfl) ⟨rfl, rfl⟩ ⟨Nat.zero_le _, Nat.zero_le _⟩ (fun r u hu => ?_)
  obtain ⟨rfl, rfl⟩ := hu
  refine jj_if_eq X d_mo_statistics_10 30 13 (by decide) rfl (fun c10 => ?_) (fun c10 => ?_)
  · have c10 := b2_f c10
    refine jj_iconst (v := -1) X d_mo_statistics_30 31 rfl (by decide) ?_
    exact jj_iret X hr hlk d_mo_statistics_31 (⟨by simp [okT, c10], by simp [okT, c10]; rfl⟩)
  · have c10 := b2_t c10
    refine jj_aload_n X d_mo_statistics_13 14 rfl 0 rfl ?_
    refine jj_iload_n X d_mo_statistics_14 15 rfl 2 rfl ?_
    refine jj_callV0 (st := []) X d_mo_statistics_15 18 rfl (c_mo_isPlace l D cI cZ q ((ua A 0 (uz (A 0) 7 0))) nP b hnP hlP) g_mo_55 ⟨rfl, w_mo_isPlace⟩ ⟨(Nat.le_of_ble_eq_true rfl), (Nat.le_of_ble_eq_true rfl)⟩ rfl 0 rfl rfl rfl (Nat.le_of_ble_eq_true rfl) ⟨rfl, rfl⟩ ⟨Nat.zero_le _, Nat.zero_le _⟩ (fun r u hu => ?_)
    obtain ⟨rfl, rfl⟩ := hu
    refine jj_if_eq X d_mo_statistics_18 30 21 (by decide) rfl (fun c18 => ?_) (fun c18 => ?_)
    · have c18 := b2_f c18
      refine jj_iconst (v := -1) X d_mo_statistics_30 31 rfl (by decide) ?_
      exact jj_iret X hr hlk d_mo_statistics_31 (⟨by simp [okT, c10, c18], by simp [okT, c10, c18]; rfl⟩)
    · have c18 := b2_t c18
      refine jj_iload_n X d_mo_statistics_21 22 rfl 3 rfl ?_
      refine jj_if_lt X d_mo_statistics_22 30 25 (by decide) rfl (fun c22 => ?_) (fun c22 => ?_)
      · refine jj_iconst (v := -1) X d_mo_statistics_30 31 rfl (by decide) ?_
        exact jj_iret X hr hlk d_mo_statistics_31 (⟨by simp [okT, c10, c18, c22], by simp [okT, c10, c18, c22]; rfl⟩)
      · refine jj_iload_n X d_mo_statistics_25 26 rfl 3 rfl ?_
        refine jj_iconst (v := 3) X d_mo_statistics_26 27 rfl (by decide) ?_
        refine jj_icmp_le X d_mo_statistics_27 32 30 (by decide) rfl (fun c27 => ?_) (fun c27 => ?_)
        · obtain ⟨i, hi, rfl⟩ := i3_lt 3 (by omega) c22 c27
          have hok : okT nP a b (nI i) = true := by simp [okT, c10, c18, c22, c27]
          refine jj_iconst (v := 0) X d_mo_statistics_32 33 rfl (by decide) ?_
          refine jj_istore (lv' := [(0, .ref (q 0)), (1, .int a), (2, .int b), (3, .int (nI i)), (4, .int 0)]) X d_mo_statistics_33 35 rfl (by decide) rfl rfl ?_
          refine jj_iconst (v := 0) X d_mo_statistics_35 36 rfl (by decide) ?_
          refine jj_istore (lv' := [(0, .ref (q 0)), (1, .int a), (2, .int b), (3, .int (nI i)), (4, .int 0), (5, .int 0)]) X d_mo_statistics_36 38 rfl (by decide) rfl rfl ?_
          refine jj_iconst (v := -1) X d_mo_statistics_38 39 rfl (by decide) ?_
          refine jj_istore (lv' := [(0, .ref (q 0)), (1, .int a), (2, .int b), (3, .int (nI i)), (4, .int 0), (5, .int 0), (6, .int (-1))]) X d_mo_statistics_39 41 rfl (by decide) rfl rfl ?_
          refine jj_iconst (v := 1) X d_mo_statistics_41 42 rfl (by decide) ?_
          refine jj_istore (lv' := [(0, .ref (q 0)), (1, .int a), (2, .int b), (3, .int (nI i)), (4, .int 0), (5, .int 0), (6, .int (-1)), (7, .int 1)]) X d_mo_statistics_42 44 rfl (by decide) rfl rfl ?_
          refine jj_loop (fun ((j, n, s0, m0) : Nat × Int32 × Int32 × Int32) => 1 ≤ j ∧ j ≤ nS + 1 ∧ x_st A a b (nS + 1 - j) j n s0 m0 = (x_st A a b nS 1 0 0 (-1))) (fun ((j, n, s0, m0) : Nat × Int32 × Int32 × Int32) => nS + 1 - j) (fun ((j, n, s0, m0) : Nat × Int32 × Int32 × Int32) => [(0, .ref (q 0)), (1, .int a), (2, .int b), (3, .int (nI i)), (4, .int n), (5, .int s0), (6, .int m0), (7, .int (nI j))]) (fun ((j, n, s0, m0) : Nat × Int32 × Int32 × Int32) => []) (fun ((j, n, s0, m0) : Nat × Int32 × Int32 × Int32) => mw cI cZ q ((ua A 0 (uz (A 0) 7 0)))) ((1, 0, 0, -1)) (⟨Nat.le_refl _, by simp, rfl⟩) rfl rfl rfl ?_
          rintro ⟨j, n, s0, m0⟩ hI ih44
          try dsimp only at hI ih44 ⊢
          obtain ⟨hj1, hj, hf⟩ := hI
          have h40 := vp_lt (hrg.2.1 j)
          refine jj_iload X d_mo_statistics_44 46 rfl 7 rfl ?_
          refine jj_aload_n X d_mo_statistics_46 47 rfl 0 rfl ?_
          refine jj_get (v := .int (nI nS)) X d_mo_statistics_47 50 rfl i_mo 12 f_mo_51 0 rfl rfl (by decide) rfl (by rw [← hnS]; rfl) ?_
          refine jj_icmp_gt X d_mo_statistics_50 172 53 (by decide) rfl (fun c50 => ?_) (fun c50 => ?_)
          · have hjn : j = nS + 1 := by have := nI_ltD c50 (by omega) (by omega); omega
            rw [hjn, Nat.sub_self] at hf
            have hz : (n, s0, m0) = (x_st A a b nS 1 0 0 (-1)) := hf
            refine jj_iload_n X d_mo_statistics_172 173 rfl 3 rfl ?_
            refine jj_iconst (v := 3) X d_mo_statistics_173 174 rfl (by decide) ?_
            refine jj_icmp_ne X d_mo_statistics_174 189 177 (by decide) rfl (fun c174 => ?_) (fun c174 => ?_)
            · have hn3 : ¬ (nI i = 3 ∧ n = 0) := fun q8 => c174 q8.1
              have hn4 : ¬ (okT nP a b (nI i) = true ∧ nI i = 3 ∧ (x_st A a b nS 1 0 0 (-1)).1 = 0) := fun q9 => hn3 ⟨q9.2.1, by have := q9.2.2; rw [← hz] at this; exact this⟩
              refine jj_iload_n X d_mo_statistics_189 190 rfl 3 rfl ?_
              refine jj_if_ne X d_mo_statistics_190 198 193 (by decide) rfl (fun c190 => ?_) (fun c190 => ?_)
              · refine jj_iload_n X d_mo_statistics_198 199 rfl 3 rfl ?_
                refine jj_iconst (v := 1) X d_mo_statistics_199 200 rfl (by decide) ?_
                refine jj_icmp_ne X d_mo_statistics_200 208 203 (by decide) rfl (fun c200 => ?_) (fun c200 => ?_)
                · refine jj_iload_n X d_mo_statistics_208 209 rfl 3 rfl ?_
                  refine jj_iconst (v := 2) X d_mo_statistics_209 210 rfl (by decide) ?_
                  refine jj_icmp_ne X d_mo_statistics_210 218 213 (by decide) rfl (fun c210 => ?_) (fun c210 => ?_)
                  · have c210 := c210
                    refine jj_iload X d_mo_statistics_218 220 rfl 5 rfl ?_
                    refine jj_iload X d_mo_statistics_220 222 rfl 4 rfl ?_
                    refine jj_idiv X d_mo_statistics_222 223 rfl (absurd (show i = 3 by have := nI_neD (b := 0) c190; have := nI_neD (b := 1) c200; have := nI_neD (b := 2) c210; omega) (nI_neD (b := 3) c174)) ?_
                    exact jj_iret X hr hlk d_mo_statistics_223 (⟨by rw [if_pos hok, ← hz, o_stM, if_neg hn3]; simp [c190, c200, c210], by rw [if_neg hn4]; rfl⟩)
                  · refine jj_iload X d_mo_statistics_213 215 rfl 6 rfl ?_
                    refine jj_goto X d_mo_statistics_215 223 (by decide) ?_
                    exact jj_iret X hr hlk d_mo_statistics_223 (⟨by rw [if_pos hok, ← hz, o_stM, if_neg hn3]; simp [c190, c200, c210], by rw [if_neg hn4]; rfl⟩)
                · refine jj_iload X d_mo_statistics_203 205 rfl 5 rfl ?_
                  refine jj_goto X d_mo_statistics_205 223 (by decide) ?_
                  exact jj_iret X hr hlk d_mo_statistics_223 (⟨by rw [if_pos hok, ← hz, o_stM, if_neg hn3]; simp [c190, c200], by rw [if_neg hn4]; rfl⟩)
              · refine jj_iload X d_mo_statistics_193 195 rfl 4 rfl ?_
                refine jj_goto X d_mo_statistics_195 223 (by decide) ?_
                exact jj_iret X hr hlk d_mo_statistics_223 (⟨by rw [if_pos hok, ← hz, o_stM, if_neg hn3]; simp [c190], by rw [if_neg hn4]; rfl⟩)
            · refine jj_iload X d_mo_statistics_177 179 rfl 4 rfl ?_
              refine jj_if_ne X d_mo_statistics_179 189 182 (by decide) rfl (fun c179 => ?_) (fun c179 => ?_)
              · have hn3 : ¬ (nI i = 3 ∧ n = 0) := fun q8 => c179 q8.2
                have hn4 : ¬ (okT nP a b (nI i) = true ∧ nI i = 3 ∧ (x_st A a b nS 1 0 0 (-1)).1 = 0) := fun q9 => hn3 ⟨q9.2.1, by have := q9.2.2; rw [← hz] at this; exact this⟩
                refine jj_iload_n X d_mo_statistics_189 190 rfl 3 rfl ?_
                refine jj_if_ne X d_mo_statistics_190 198 193 (by decide) rfl (fun c190 => ?_) (fun c190 => ?_)
                · refine jj_iload_n X d_mo_statistics_198 199 rfl 3 rfl ?_
                  refine jj_iconst (v := 1) X d_mo_statistics_199 200 rfl (by decide) ?_
                  refine jj_icmp_ne X d_mo_statistics_200 208 203 (by decide) rfl (fun c200 => ?_) (fun c200 => ?_)
                  · refine jj_iload_n X d_mo_statistics_208 209 rfl 3 rfl ?_
                    refine jj_iconst (v := 2) X d_mo_statistics_209 210 rfl (by decide) ?_
                    refine jj_icmp_ne X d_mo_statistics_210 218 213 (by decide) rfl (fun c210 => ?_) (fun c210 => ?_)
                    · have c210 := c210
                      refine jj_iload X d_mo_statistics_218 220 rfl 5 rfl ?_
                      refine jj_iload X d_mo_statistics_220 222 rfl 4 rfl ?_
                      refine jj_idiv X d_mo_statistics_222 223 rfl (c179) ?_
                      exact jj_iret X hr hlk d_mo_statistics_223 (⟨by rw [if_pos hok, ← hz, o_stM, if_neg hn3]; simp [c190, c200, c210], by rw [if_neg hn4]; rfl⟩)
                    · refine jj_iload X d_mo_statistics_213 215 rfl 6 rfl ?_
                      refine jj_goto X d_mo_statistics_215 223 (by decide) ?_
                      exact jj_iret X hr hlk d_mo_statistics_223 (⟨by rw [if_pos hok, ← hz, o_stM, if_neg hn3]; simp [c190, c200, c210], by rw [if_neg hn4]; rfl⟩)
                  · refine jj_iload X d_mo_statistics_203 205 rfl 5 rfl ?_
                    refine jj_goto X d_mo_statistics_205 223 (by decide) ?_
                    exact jj_iret X hr hlk d_mo_statistics_223 (⟨by rw [if_pos hok, ← hz, o_stM, if_neg hn3]; simp [c190, c200], by rw [if_neg hn4]; rfl⟩)
                · refine jj_iload X d_mo_statistics_193 195 rfl 4 rfl ?_
                  refine jj_goto X d_mo_statistics_195 223 (by decide) ?_
                  exact jj_iret X hr hlk d_mo_statistics_223 (⟨by rw [if_pos hok, ← hz, o_stM, if_neg hn3]; simp [c190], by rw [if_neg hn4]; rfl⟩)
              · refine jj_aload_n X d_mo_statistics_182 183 rfl 0 rfl ?_
                refine jj_iconst (v := 1) X d_mo_statistics_183 184 rfl (by decide) ?_
                refine jj_put (ty := .int) (ws' := mw cI cZ q ((ua A 0 (uz (uz (A 0) 7 0) 7 1)))) X d_mo_statistics_184 187 rfl i_mo t_mo t_mo_ok n_mo 0 f_mo_38 0 rfl rfl (by decide) rfl rfl (by decide +kernel) rfl rfl (Nat.le_of_ble_eq_true rfl) rfl ?_
                refine jj_iconst (v := 0) X d_mo_statistics_187 188 rfl (by decide) ?_
                exact jj_iret X hr hlk d_mo_statistics_188 (⟨by rw [if_pos hok, ← hz, o_stM, if_pos ⟨c174, c179⟩], by rw [if_pos ⟨hok, c174, by rw [← hz]; exact c179⟩]; rfl⟩)
          · have hjn : j ≤ nS := nI_nltD c50 (by omega) (by omega)
            refine jj_aload_n X d_mo_statistics_53 54 rfl 0 rfl ?_
            refine jj_get (v := .ref (q 8)) X d_mo_statistics_54 57 rfl i_mo 13 f_mo_32 0 rfl rfl (by decide) rfl rfl ?_
            refine jj_bipush (v := 8) X d_mo_statistics_57 59 rfl (by decide) ?_
            refine jj_iload X d_mo_statistics_59 61 rfl 7 rfl ?_
            refine jj_imul X d_mo_statistics_61 62 rfl ?_
            refine jj_topv (y := nI (8 * j)) (pk_mul 8 _) ?_
            refine jj_iconst (v := 1) X d_mo_statistics_62 63 rfl (by decide) ?_
            refine jj_iadd X d_mo_statistics_63 64 rfl ?_
            refine jj_topv (y := nI (8 * j + 1)) (nI_1 _) ?_
            refine jj_iald (v := A 16 j) X d_mo_statistics_64 65 rfl 8 0 rfl rfl (vp_in_nI (by omega) (by omega)) ((ar_cl (by omega)).trans (mxr8_1 _)) ?_
            refine jj_topv (y := nI (A 16 j).toNatClampNeg) (vp_nI (hrg.2.1 _)) ?_
            refine jj_istore (lv' := [(0, .ref (q 0)), (1, .int a), (2, .int b), (3, .int (nI i)), (4, .int n), (5, .int s0), (6, .int m0), (7, .int (nI j)), (8, .int (nI (A 16 j).toNatClampNeg))]) X d_mo_statistics_65 67 rfl (by decide) rfl rfl ?_
            refine jj_aload_n X d_mo_statistics_67 68 rfl 0 rfl ?_
            refine jj_get (v := .ref (q 8)) X d_mo_statistics_68 71 rfl i_mo 13 f_mo_32 0 rfl rfl (by decide) rfl rfl ?_
            refine jj_bipush (v := 8) X d_mo_statistics_71 73 rfl (by decide) ?_
            refine jj_iload X d_mo_statistics_73 75 rfl 7 rfl ?_
            refine jj_imul X d_mo_statistics_75 76 rfl ?_
            refine jj_topv (y := nI (8 * j)) (pk_mul 8 _) ?_
            refine jj_iconst (v := 2) X d_mo_statistics_76 77 rfl (by decide) ?_
            refine jj_iadd X d_mo_statistics_77 78 rfl ?_
            refine jj_topv (y := nI (8 * j + 2)) (nI_add _ 2) ?_
            refine jj_iald (v := A 17 j) X d_mo_statistics_78 79 rfl 8 0 rfl rfl (vp_in_nI (by omega) (by omega)) ((ar_cl (by omega)).trans (mxr8_2 _)) ?_
            refine jj_iconst (v := 2) X d_mo_statistics_79 80 rfl (by decide) ?_
            refine jj_icmp_ne X d_mo_statistics_80 166 83 (by decide) rfl (fun c80 => ?_) (fun c80 => ?_)
            · refine jj_iinc (v := nI (j + 1)) (lv' := [(0, .ref (q 0)), (1, .int a), (2, .int b), (3, .int (nI i)), (4, .int n), (5, .int s0), (6, .int m0), (7, .int (nI (j + 1))), (8, .int (nI (A 16 j).toNatClampNeg))]) X d_mo_statistics_166 169 rfl 7 rfl (ar_inc _) (by decide) rfl rfl ?_
              refine jj_goto X d_mo_statistics_169 44 (by decide) ?_
              refine jj_lvs (lv' := [(0, .ref (q 0)), (1, .int a), (2, .int b), (3, .int (nI i)), (4, .int n), (5, .int s0), (6, .int m0), (7, .int (nI (j + 1)))]) (by simp) ?_
              exact ih44 ((j + 1, n, s0, m0)) (⟨by simp only; omega, by simp only; omega, by simp only; rw [← hf, x_st_s hjn]; simp [joC, c80]⟩) (by simp only; omega)
            · refine jj_aload_n X d_mo_statistics_83 84 rfl 0 rfl ?_
              refine jj_get (v := .ref (q 2)) X d_mo_statistics_84 87 rfl i_mo 4 f_mo_13 0 rfl rfl (by decide) rfl rfl ?_
              refine jj_bipush (v := 6) X d_mo_statistics_87 89 rfl (by decide) ?_
              refine jj_iload X d_mo_statistics_89 91 rfl 8 rfl ?_
              refine jj_imul X d_mo_statistics_91 92 rfl ?_
              refine jj_topv (y := nI (6 * (A 16 j).toNatClampNeg)) (pk_mul 6 _) ?_
              refine jj_iald (v := A 2 (A 16 j).toNatClampNeg) X d_mo_statistics_92 93 rfl 2 0 rfl rfl (vp_in_nI (by omega) (by omega)) ((ar_cl (by omega)).trans (mxr6_0 _)) ?_
              refine jj_iload_n X d_mo_statistics_93 94 rfl 1 rfl ?_
              refine jj_icmp_ne X d_mo_statistics_94 166 97 (by decide) rfl (fun c94 => ?_) (fun c94 => ?_)
              · refine jj_iinc (v := nI (j + 1)) (lv' := [(0, .ref (q 0)), (1, .int a), (2, .int b), (3, .int (nI i)), (4, .int n), (5, .int s0), (6, .int m0), (7, .int (nI (j + 1))), (8, .int (nI (A 16 j).toNatClampNeg))]) X d_mo_statistics_166 169 rfl 7 rfl (ar_inc _) (by decide) rfl rfl ?_
                refine jj_goto X d_mo_statistics_169 44 (by decide) ?_
                refine jj_lvs (lv' := [(0, .ref (q 0)), (1, .int a), (2, .int b), (3, .int (nI i)), (4, .int n), (5, .int s0), (6, .int m0), (7, .int (nI (j + 1)))]) (by simp) ?_
                exact ih44 ((j + 1, n, s0, m0)) (⟨by simp only; omega, by simp only; omega, by simp only; rw [← hf, x_st_s hjn]; simp [joC, c80, c94]⟩) (by simp only; omega)
              · refine jj_aload_n X d_mo_statistics_97 98 rfl 0 rfl ?_
                refine jj_get (v := .ref (q 2)) X d_mo_statistics_98 101 rfl i_mo 4 f_mo_13 0 rfl rfl (by decide) rfl rfl ?_
                refine jj_bipush (v := 6) X d_mo_statistics_101 103 rfl (by decide) ?_
                refine jj_iload X d_mo_statistics_103 105 rfl 8 rfl ?_
                refine jj_imul X d_mo_statistics_105 106 rfl ?_
                refine jj_topv (y := nI (6 * (A 16 j).toNatClampNeg)) (pk_mul 6 _) ?_
                refine jj_iconst (v := 1) X d_mo_statistics_106 107 rfl (by decide) ?_
                refine jj_iadd X d_mo_statistics_107 108 rfl ?_
                refine jj_topv (y := nI (6 * (A 16 j).toNatClampNeg + 1)) (nI_1 _) ?_
                refine jj_iald (v := A 3 (A 16 j).toNatClampNeg) X d_mo_statistics_108 109 rfl 2 0 rfl rfl (vp_in_nI (by omega) (by omega)) ((ar_cl (by omega)).trans (mxr6_1 _)) ?_
                refine jj_iload_n X d_mo_statistics_109 110 rfl 2 rfl ?_
                refine jj_icmp_ne X d_mo_statistics_110 166 113 (by decide) rfl (fun c110 => ?_) (fun c110 => ?_)
                · refine jj_iinc (v := nI (j + 1)) (lv' := [(0, .ref (q 0)), (1, .int a), (2, .int b), (3, .int (nI i)), (4, .int n), (5, .int s0), (6, .int m0), (7, .int (nI (j + 1))), (8, .int (nI (A 16 j).toNatClampNeg))]) X d_mo_statistics_166 169 rfl 7 rfl (ar_inc _) (by decide) rfl rfl ?_
                  refine jj_goto X d_mo_statistics_169 44 (by decide) ?_
                  refine jj_lvs (lv' := [(0, .ref (q 0)), (1, .int a), (2, .int b), (3, .int (nI i)), (4, .int n), (5, .int s0), (6, .int m0), (7, .int (nI (j + 1)))]) (by simp) ?_
                  exact ih44 ((j + 1, n, s0, m0)) (⟨by simp only; omega, by simp only; omega, by simp only; rw [← hf, x_st_s hjn]; simp [joC, c80, c94, c110]⟩) (by simp only; omega)
                · refine jj_aload_n X d_mo_statistics_113 114 rfl 0 rfl ?_
                  refine jj_get (v := .ref (q 8)) X d_mo_statistics_114 117 rfl i_mo 13 f_mo_32 0 rfl rfl (by decide) rfl rfl ?_
                  refine jj_bipush (v := 8) X d_mo_statistics_117 119 rfl (by decide) ?_
                  refine jj_iload X d_mo_statistics_119 121 rfl 7 rfl ?_
                  refine jj_imul X d_mo_statistics_121 122 rfl ?_
                  refine jj_topv (y := nI (8 * j)) (pk_mul 8 _) ?_
                  refine jj_iconst (v := 5) X d_mo_statistics_122 123 rfl (by decide) ?_
                  refine jj_iadd X d_mo_statistics_123 124 rfl ?_
                  refine jj_topv (y := nI (8 * j + 5)) (nI_add _ 5) ?_
                  refine jj_iald (v := A 20 j) X d_mo_statistics_124 125 rfl 8 0 rfl rfl (vp_in_nI (by omega) (by omega)) ((ar_cl (by omega)).trans (mxr8_5 _)) ?_
                  refine jj_aload_n X d_mo_statistics_125 126 rfl 0 rfl ?_
                  refine jj_get (v := .ref (q 8)) X d_mo_statistics_126 129 rfl i_mo 13 f_mo_32 0 rfl rfl (by decide) rfl rfl ?_
                  refine jj_bipush (v := 8) X d_mo_statistics_129 131 rfl (by decide) ?_
                  refine jj_iload X d_mo_statistics_131 133 rfl 7 rfl ?_
                  refine jj_imul X d_mo_statistics_133 134 rfl ?_
                  refine jj_topv (y := nI (8 * j)) (pk_mul 8 _) ?_
                  refine jj_iconst (v := 3) X d_mo_statistics_134 135 rfl (by decide) ?_
                  refine jj_iadd X d_mo_statistics_135 136 rfl ?_
                  refine jj_topv (y := nI (8 * j + 3)) (nI_add _ 3) ?_
                  refine jj_iald (v := A 18 j) X d_mo_statistics_136 137 rfl 8 0 rfl rfl (vp_in_nI (by omega) (by omega)) ((ar_cl (by omega)).trans (mxr8_3 _)) ?_
                  refine jj_isub X d_mo_statistics_137 138 rfl ?_
                  refine jj_istore (lv' := [(0, .ref (q 0)), (1, .int a), (2, .int b), (3, .int (nI i)), (4, .int n), (5, .int s0), (6, .int m0), (7, .int (nI j)), (8, .int (nI (A 16 j).toNatClampNeg)), (9, .int ((A 20 j) - (A 18 j)))]) X d_mo_statistics_138 140 rfl (by decide) rfl rfl ?_
                  refine jj_iinc (v := n + 1) (lv' := [(0, .ref (q 0)), (1, .int a), (2, .int b), (3, .int (nI i)), (4, .int (n + 1)), (5, .int s0), (6, .int m0), (7, .int (nI j)), (8, .int (nI (A 16 j).toNatClampNeg)), (9, .int ((A 20 j) - (A 18 j)))]) X d_mo_statistics_140 143 rfl 4 rfl rfl (by decide) rfl rfl ?_
                  refine jj_iload X d_mo_statistics_143 145 rfl 5 rfl ?_
                  refine jj_iload X d_mo_statistics_145 147 rfl 9 rfl ?_
                  refine jj_iadd X d_mo_statistics_147 148 rfl ?_
                  refine jj_istore (lv' := [(0, .ref (q 0)), (1, .int a), (2, .int b), (3, .int (nI i)), (4, .int (n + 1)), (5, .int (s0 + ((A 20 j) - (A 18 j)))), (6, .int m0), (7, .int (nI j)), (8, .int (nI (A 16 j).toNatClampNeg)), (9, .int ((A 20 j) - (A 18 j)))]) X d_mo_statistics_148 150 rfl (by decide) rfl rfl ?_
                  refine jj_iload X d_mo_statistics_150 152 rfl 9 rfl ?_
                  refine jj_iload X d_mo_statistics_152 154 rfl 6 rfl ?_
                  refine jj_icmp_le X d_mo_statistics_154 162 157 (by decide) rfl (fun c154 => ?_) (fun c154 => ?_)
                  · have c154 := Int32.not_lt.mpr c154
                    refine jj_iload X d_mo_statistics_162 164 rfl 6 rfl ?_
                    refine jj_istore (lv' := [(0, .ref (q 0)), (1, .int a), (2, .int b), (3, .int (nI i)), (4, .int (n + 1)), (5, .int (s0 + ((A 20 j) - (A 18 j)))), (6, .int m0), (7, .int (nI j)), (8, .int (nI (A 16 j).toNatClampNeg)), (9, .int ((A 20 j) - (A 18 j)))]) X d_mo_statistics_164 166 rfl (by decide) rfl rfl ?_
                    refine jj_iinc (v := nI (j + 1)) (lv' := [(0, .ref (q 0)), (1, .int a), (2, .int b), (3, .int (nI i)), (4, .int (n + 1)), (5, .int (s0 + ((A 20 j) - (A 18 j)))), (6, .int m0), (7, .int (nI (j + 1))), (8, .int (nI (A 16 j).toNatClampNeg)), (9, .int ((A 20 j) - (A 18 j)))]) X d_mo_statistics_166 169 rfl 7 rfl (ar_inc _) (by decide) rfl rfl ?_
                    refine jj_goto X d_mo_statistics_169 44 (by decide) ?_
                    refine jj_lvs (lv' := [(0, .ref (q 0)), (1, .int a), (2, .int b), (3, .int (nI i)), (4, .int (n + 1)), (5, .int (s0 + ((A 20 j) - (A 18 j)))), (6, .int m0), (7, .int (nI (j + 1)))]) (by simp) ?_
                    exact ih44 ((j + 1, n + 1, s0 + ((A 20 j) - (A 18 j)), m0)) (⟨by simp only; omega, by simp only; omega, by simp only; rw [← hf, x_st_s hjn]; simp [joC, c80, c94, c110, c154]⟩) (by simp only; omega)
                  · have c154 := Int32.not_le.mp c154
                    refine jj_iload X d_mo_statistics_157 159 rfl 9 rfl ?_
                    refine jj_goto X d_mo_statistics_159 164 (by decide) ?_
                    refine jj_istore (lv' := [(0, .ref (q 0)), (1, .int a), (2, .int b), (3, .int (nI i)), (4, .int (n + 1)), (5, .int (s0 + ((A 20 j) - (A 18 j)))), (6, .int ((A 20 j) - (A 18 j))), (7, .int (nI j)), (8, .int (nI (A 16 j).toNatClampNeg)), (9, .int ((A 20 j) - (A 18 j)))]) X d_mo_statistics_164 166 rfl (by decide) rfl rfl ?_
                    refine jj_iinc (v := nI (j + 1)) (lv' := [(0, .ref (q 0)), (1, .int a), (2, .int b), (3, .int (nI i)), (4, .int (n + 1)), (5, .int (s0 + ((A 20 j) - (A 18 j)))), (6, .int ((A 20 j) - (A 18 j))), (7, .int (nI (j + 1))), (8, .int (nI (A 16 j).toNatClampNeg)), (9, .int ((A 20 j) - (A 18 j)))]) X d_mo_statistics_166 169 rfl 7 rfl (ar_inc _) (by decide) rfl rfl ?_
                    refine jj_goto X d_mo_statistics_169 44 (by decide) ?_
                    refine jj_lvs (lv' := [(0, .ref (q 0)), (1, .int a), (2, .int b), (3, .int (nI i)), (4, .int (n + 1)), (5, .int (s0 + ((A 20 j) - (A 18 j)))), (6, .int ((A 20 j) - (A 18 j))), (7, .int (nI (j + 1)))]) (by simp) ?_
                    exact ih44 ((j + 1, n + 1, s0 + ((A 20 j) - (A 18 j)), (A 20 j) - (A 18 j))) (⟨by simp only; omega, by simp only; omega, by simp only; rw [← hf, x_st_s hjn]; simp [joC, c80, c94, c110, c154]⟩) (by simp only; omega)
        · refine jj_iconst (v := -1) X d_mo_statistics_30 31 rfl (by decide) ?_
          exact jj_iret X hr hlk d_mo_statistics_31 (⟨by simp [okT, c10, c18, c22, c27], by simp [okT, c10, c18, c22, c27]; rfl⟩)
