set_option maxRecDepth 100000 in
set_option maxHeartbeats 4000000 in
theorem c_tr_place (l : Launch) (D : va_G) (cI cZ : ClassId) (q : Nat → Nat) (A : Rows) (nP : Nat) (hnP : A 0 0 = nI nP) (hlP : nP ≤ 12) : mt_I l D cls_ [(cI, .int), (cZ, .boolean)] nst_ y_tr_place (Cond.code y_tr_place b_tr_place 1 (some .int) :: gt_) (rmd 1) [.ref (q 0)] (tw cI cZ q A) (fun r u => r = (if nP = 12 then -1 else nI nP) ∧ u = tw cI cZ q (if nP = 12 then A else (ua (ua A 0 (uz (A 0) 0 (nI (nP + 1)))) 1 (upd (A 1) nP 1)))) := by
  refine mt_I_of (by decide) (Nat.le_of_ble_eq_true rfl) ?_
  intro p e s m below meth c AA X hr hlk
  refine jj_lve (lv' := [(0, .ref (q 0))]) rfl ?_
  refine jj_aload_n X d_tr_place_0 1 rfl 0 rfl ?_
  refine jj_get (v := .ref (q 1)) X d_tr_place_1 4 rfl i_tr 0 f_tr_10 0 rfl rfl (by decide) rfl rfl ?_
  refine jj_callV0 (st := []) X d_tr_place_4 7 rfl (c_pl_add l D cI cZ q A nP hnP hlP) g_tr_59 ⟨rfl, w_pl_add⟩ ⟨(Nat.le_of_ble_eq_true rfl), (Nat.le_of_ble_eq_true rfl)⟩ rfl 1 rfl rfl rfl (Nat.le_of_ble_eq_true rfl) ⟨rfl, rfl⟩ ⟨Nat.zero_le _, Nat.zero_le _⟩ (fun r u hu => ?_)
  exact jj_iret X hr hlk d_tr_place_7 (hu)
set_option maxRecDepth 100000 in
set_option maxHeartbeats 4000000 in
theorem c_tr_send (l : Launch) (D : va_G) (cI cZ : ClassId) (q : Nat → Nat) (A : Rows) (nP : Nat) (nR : Nat) (nX : Nat) (nC : Nat) (nS : Nat) (x y d : Int32) (hnP : A 0 0 = nI nP) (hlP : nP ≤ 12) (hnR : A 0 1 = nI nR) (hlR : nR ≤ 40) (hnX : A 0 2 = nI nX) (hlX : nX ≤ 60) (hnC : A 0 3 = nI nC) (hlC : nC ≤ 60) (hnS : A 0 4 = nI nS) (hlS : nS ≤ 150) (hrg : rgC A) : mt_I l D cls_ [(cI, .int), (cZ, .boolean)] nst_ y_tr_send (Cond.code y_tr_send b_tr_send 7 (some .int) :: gt_) (rmd 4) [.ref (q 0), .int x, .int y, .int d] (tw cI cZ q A) (fun r u => r = (s_send A nP nR nX nC nS x y d).1 ∧ u = tw cI cZ q (s_send A nP nR nX nC nS x y d).2) := by
  refine mt_I_of (by decide) (Nat.le_of_ble_eq_true rfl) ?_
  intro p e s m below meth c AA X hr hlk
  refine jj_lve (lv' := [(0, .ref (q 0)), (1, .int x), (2, .int y), (3, .int d)]) rfl ?_
  refine jj_aload_n X d_tr_send_0 1 rfl 0 rfl ?_
  refine jj_get (v := .ref (q 4)) X d_tr_send_1 4 rfl i_tr 2 f_tr_26 0 rfl rfl (by decide) rfl rfl ?_
  refine jj_iload_n X d_tr_send_4 5 rfl 1 rfl ?_
  refine jj_callV0 (st := []) X d_tr_send_5 8 rfl (c_cp_has l D cI cZ q A x) g_tr_93 ⟨rfl, w_cp_has⟩ ⟨(Nat.le_of_ble_eq_true rfl), (Nat.le_of_ble_eq_true rfl)⟩ rfl 4 rfl rfl rfl (Nat.le_of_ble_eq_true rfl) ⟨rfl, rfl⟩ ⟨Nat.zero_le _, Nat.zero_le _⟩ (fun r u hu => ?_)
  obtain ⟨rfl, rfl⟩ := hu
  rw [hnC]
  refine jj_if_eq X d_tr_send_8 29 11 (by decide) rfl (fun c8 => ?_) (fun c8 => ?_)
  · have c8 := b2_f c8
    refine jj_iconst (v := 0) X d_tr_send_29 30 rfl (by decide) ?_
    exact jj_iret X hr hlk d_tr_send_30 (⟨by simp [s_send, okS, *], by simp [s_send, okS, *]⟩)
  · have c8 := b2_t c8
    refine jj_aload_n X d_tr_send_11 12 rfl 0 rfl ?_
    refine jj_get (v := .ref (q 1)) X d_tr_send_12 15 rfl i_tr 0 f_tr_10 0 rfl rfl (by decide) rfl rfl ?_
    refine jj_iload_n X d_tr_send_15 16 rfl 2 rfl ?_
    refine jj_callV0 (st := []) X d_tr_send_16 19 rfl (c_pl_has l D cI cZ q A y) g_tr_63 ⟨rfl, w_pl_has⟩ ⟨(Nat.le_of_ble_eq_true rfl), (Nat.le_of_ble_eq_true rfl)⟩ rfl 1 rfl rfl rfl (Nat.le_of_ble_eq_true rfl) ⟨rfl, rfl⟩ ⟨Nat.zero_le _, Nat.zero_le _⟩ (fun r u hu => ?_)
    obtain ⟨rfl, rfl⟩ := hu
    rw [hnP]
    refine jj_if_eq X d_tr_send_19 29 22 (by decide) rfl (fun c19 => ?_) (fun c19 => ?_)
    · have c19 := b2_f c19
      refine jj_iconst (v := 0) X d_tr_send_29 30 rfl (by decide) ?_
      exact jj_iret X hr hlk d_tr_send_30 (⟨by simp [s_send, okS, *], by simp [s_send, okS, *]⟩)
    · have c19 := b2_t c19
      refine jj_iload_n X d_tr_send_22 23 rfl 3 rfl ?_
      refine jj_callS0 (st := []) X d_tr_send_23 26 rfl (c_tr_isDay l D cI cZ q A d) g_tr_75 ⟨rfl, w_tr_isDay⟩ ⟨(Nat.le_of_ble_eq_true rfl), (Nat.le_of_ble_eq_true rfl)⟩ rfl rfl (Nat.le_of_ble_eq_true rfl) ⟨rfl, rfl⟩ ⟨Nat.zero_le _, Nat.zero_le _⟩ (fun r u hu => ?_)
      obtain ⟨rfl, rfl⟩ := hu
      refine jj_if_ne X d_tr_send_26 31 29 (by decide) rfl (fun c26 => ?_) (fun c26 => ?_)
      · have c26 := b2_t c26
        obtain ⟨t, ht, rfl⟩ := dC_of c26
        have hx : vp_in x 61 := h1_in c8 (by rw [nI_toInt (by omega)]; omega)
        have hy : vp_in y 12 := hN_in c19 (by rw [nI_toInt (by omega)]; omega)
        refine jj_aload_n X d_tr_send_31 32 rfl 0 rfl ?_
        refine jj_get (v := .ref (q 4)) X d_tr_send_32 35 rfl i_tr 2 f_tr_26 0 rfl rfl (by decide) rfl rfl ?_
        refine jj_get (v := .ref (q 19)) X d_tr_send_35 38 rfl i_cp 2 f_tr_100 4 rfl rfl (by decide) rfl rfl ?_
        refine jj_iload_n X d_tr_send_38 39 rfl 1 rfl ?_
        refine jj_iald (v := A 12 x.toNatClampNeg) X d_tr_send_39 40 rfl 19 0 rfl rfl (hx) (rfl) ?_
        refine jj_if_ne X d_tr_send_40 69 43 (by decide) rfl (fun c40 => ?_) (fun c40 => ?_)
        · refine jj_iconst (v := 0) X d_tr_send_69 70 rfl (by decide) ?_
          exact jj_iret X hr hlk d_tr_send_70 (⟨by simp [s_send, okS, *], by simp [s_send, okS, *]⟩)
        · refine jj_aload_n X d_tr_send_43 44 rfl 0 rfl ?_
          refine jj_get (v := .ref (q 4)) X d_tr_send_44 47 rfl i_tr 2 f_tr_26 0 rfl rfl (by decide) rfl rfl ?_
          refine jj_get (v := .ref (q 18)) X d_tr_send_47 50 rfl i_cp 1 f_tr_103 4 rfl rfl (by decide) rfl rfl ?_
          refine jj_iload_n X d_tr_send_50 51 rfl 1 rfl ?_
          refine jj_iald (v := A 11 x.toNatClampNeg) X d_tr_send_51 52 rfl 18 0 rfl rfl (hx) (rfl) ?_
          refine jj_iload_n X d_tr_send_52 53 rfl 2 rfl ?_
          refine jj_icmp_eq X d_tr_send_53 69 56 (by decide) rfl (fun c53 => ?_) (fun c53 => ?_)
          · refine jj_iconst (v := 0) X d_tr_send_69 70 rfl (by decide) ?_
            exact jj_iret X hr hlk d_tr_send_70 (⟨by simp [s_send, okS, *], by simp [s_send, okS, *]⟩)
          · refine jj_aload_n X d_tr_send_56 57 rfl 0 rfl ?_
            refine jj_get (v := .ref (q 5)) X d_tr_send_57 60 rfl i_tr 3 f_tr_33 0 rfl rfl (by decide) rfl rfl ?_
            refine jj_get (v := .int (nI nS)) X d_tr_send_60 63 rfl i_sl 6 f_tr_106 5 rfl rfl (by decide) rfl (by rw [← hnS]; rfl) ?_
            refine jj_sipush (v := 150) X d_tr_send_63 66 rfl (by decide) ?_
            refine jj_icmp_ne X d_tr_send_66 71 69 (by decide) rfl (fun c66 => ?_) (fun c66 => ?_)
            · have hS : nS ≠ 150 := nI_neD c66
              refine jj_aload_n X d_tr_send_71 72 rfl 0 rfl ?_
              refine jj_get (v := .ref (q 1)) X d_tr_send_72 75 rfl i_tr 0 f_tr_10 0 rfl rfl (by decide) rfl rfl ?_
              refine jj_get (v := .ref (q 8)) X d_tr_send_75 78 rfl i_pl 0 f_tr_67 1 rfl rfl (by decide) rfl rfl ?_
              refine jj_iload_n X d_tr_send_78 79 rfl 2 rfl ?_
              refine jj_zald (v := A 1 y.toNatClampNeg) X d_tr_send_79 80 rfl 8 1 rfl rfl (hy) (rfl) ?_
              refine jj_if_ne X d_tr_send_80 86 83 (by decide) rfl (fun c80 => ?_) (fun c80 => ?_)
              · refine jj_aload_n X d_tr_send_86 87 rfl 0 rfl ?_
                refine jj_get (v := .ref (q 4)) X d_tr_send_87 90 rfl i_tr 2 f_tr_26 0 rfl rfl (by decide) rfl rfl ?_
                refine jj_get (v := .ref (q 20)) X d_tr_send_90 93 rfl i_cp 3 f_tr_94 4 rfl rfl (by decide) rfl rfl ?_
                refine jj_iload_n X d_tr_send_93 94 rfl 1 rfl ?_
                refine jj_zald (v := A 13 x.toNatClampNeg) X d_tr_send_94 95 rfl 20 1 rfl rfl (hx) (rfl) ?_
                refine jj_if_eq X d_tr_send_95 102 98 (by decide) rfl (fun c95 => ?_) (fun c95 => ?_)
                · have hes : eS A x (nI t) = t + 1 := by simp only [eS, c95, if_true, nI_clamp (show t < 2 ^ 31 by omega)]
                  refine jj_iload_n X d_tr_send_102 103 rfl 3 rfl ?_
                  refine jj_iconst (v := 1) X d_tr_send_103 104 rfl (by decide) ?_
                  refine jj_iadd X d_tr_send_104 105 rfl ?_
                  refine jj_topv (y := nI (t + 1)) (nI_1 _) ?_
                  refine jj_istore (lv' := [(0, .ref (q 0)), (1, .int x), (2, .int y), (3, .int (nI t)), (4, .int (nI (t + 1)))]) X d_tr_send_105 107 rfl (by decide) rfl rfl ?_
                  refine jj_aload_n X d_tr_send_107 108 rfl 0 rfl ?_
                  refine jj_get (v := .ref (q 2)) X d_tr_send_108 111 rfl i_tr 1 f_tr_19 0 rfl rfl (by decide) rfl rfl ?_
                  refine jj_aload_n X d_tr_send_111 112 rfl 0 rfl ?_
                  refine jj_get (v := .ref (q 4)) X d_tr_send_112 115 rfl i_tr 2 f_tr_26 0 rfl rfl (by decide) rfl rfl ?_
                  refine jj_get (v := .ref (q 18)) X d_tr_send_115 118 rfl i_cp 1 f_tr_103 4 rfl rfl (by decide) rfl rfl ?_
                  refine jj_iload_n X d_tr_send_118 119 rfl 1 rfl ?_
                  refine jj_iald (v := A 11 x.toNatClampNeg) X d_tr_send_119 120 rfl 18 0 rfl rfl (hx) (rfl) ?_
                  refine jj_iload_n X d_tr_send_120 121 rfl 2 rfl ?_
                  refine jj_iload X d_tr_send_121 123 rfl 4 rfl ?_
                  refine jj_callV0 (st := []) X d_tr_send_123 126 rfl (c_ro_findQuickest l D cI cZ q A nX nR (A 11 x.toNatClampNeg) y (t + 1) hnX hlX hnR hlR (by omega)) g_tr_109 ⟨rfl, w_ro_findQuickest⟩ ⟨(Nat.le_of_ble_eq_true rfl), (Nat.le_of_ble_eq_true rfl)⟩ rfl 2 rfl rfl rfl (Nat.le_of_ble_eq_true rfl) ⟨rfl, rfl⟩ ⟨Nat.zero_le _, Nat.zero_le _⟩ (fun r u hu => ?_)
                  obtain ⟨rfl, rfl⟩ := hu
                  refine jj_istore (lv' := [(0, .ref (q 0)), (1, .int x), (2, .int y), (3, .int (nI t)), (4, .int (nI (t + 1))), (5, .int (x_qk A nX (A 11 x.toNatClampNeg) y (t + 1) nR 0 (-1) 0))]) X d_tr_send_126 128 rfl (by decide) rfl rfl ?_
                  have hbs := (show bS A nR nX x y (nI t) = _ by rw [bS, hes])
                  refine jj_iload X d_tr_send_128 130 rfl 5 rfl ?_
                  refine jj_iconst (v := -1) X d_tr_send_130 131 rfl (by decide) ?_
                  refine jj_icmp_ne X d_tr_send_131 137 134 (by decide) rfl (fun c131 => ?_) (fun c131 => ?_)
                  · obtain ⟨i, hi, ei⟩ := (x_qk_r nR 0 (-1) 0 (Or.inl rfl)).resolve_left c131
                    have hbin : vp_in (nI i) 40 := vp_in_nI (by omega) (by omega)
                    rw [← ei] at hbin
                    refine jj_aload_n X d_tr_send_137 138 rfl 0 rfl ?_
                    refine jj_get (v := .ref (q 5)) X d_tr_send_138 141 rfl i_tr 3 f_tr_33 0 rfl rfl (by decide) rfl rfl ?_
                    refine jj_iload_n X d_tr_send_141 142 rfl 1 rfl ?_
                    refine jj_iload X d_tr_send_142 144 rfl 5 rfl ?_
                    refine jj_iload_n X d_tr_send_144 145 rfl 3 rfl ?_
                    refine jj_aload_n X d_tr_send_145 146 rfl 0 rfl ?_
                    refine jj_get (v := .ref (q 2)) X d_tr_send_146 149 rfl i_tr 1 f_tr_19 0 rfl rfl (by decide) rfl rfl ?_
                    refine jj_iload X d_tr_send_149 151 rfl 5 rfl ?_
                    refine jj_iload X d_tr_send_151 153 rfl 4 rfl ?_
                    refine jj_callV0 (st := [.int (nI t), .int (x_qk A nX (A 11 x.toNatClampNeg) y (t + 1) nR 0 (-1) 0), .int x, .ref (q 5)]) X d_tr_send_153 156 rfl (c_ro_firstRun l D cI cZ q A nX (x_qk A nX (A 11 x.toNatClampNeg) y (t + 1) nR 0 (-1) 0) (t + 1) hnX hlX hbin (by omega)) g_tr_113 ⟨rfl, w_ro_firstRun⟩ ⟨(Nat.le_of_ble_eq_true rfl), (Nat.le_of_ble_eq_true rfl)⟩ rfl 2 rfl rfl rfl (Nat.le_of_ble_eq_true rfl) ⟨rfl, rfl⟩ ⟨Nat.zero_le _, Nat.zero_le _⟩ (fun r u hu => ?_)
                    obtain ⟨rfl, rfl⟩ := hu
                    refine jj_callV0 (st := []) X d_tr_send_156 159 rfl (c_sl_add l D cI cZ q A nS x (x_qk A nX (A 11 x.toNatClampNeg) y (t + 1) nR 0 (-1) 0) (nI t) (x_fst A nX (x_qk A nX (A 11 x.toNatClampNeg) y (t + 1) nR 0 (-1) 0) (100000 - (t + 1)) (t + 1)) hnS (by omega)) g_tr_117 ⟨rfl, w_sl_add⟩ ⟨(Nat.le_of_ble_eq_true rfl), (Nat.le_of_ble_eq_true rfl)⟩ rfl 5 rfl rfl rfl (Nat.le_of_ble_eq_true rfl) ⟨rfl, rfl⟩ ⟨Nat.zero_le _, Nat.zero_le _⟩ (fun r u hu => ?_)
                    obtain ⟨rfl, rfl⟩ := hu
                    refine jj_istore (lv' := [(0, .ref (q 0)), (1, .int x), (2, .int y), (3, .int (nI t)), (4, .int (nI (t + 1))), (5, .int (x_qk A nX (A 11 x.toNatClampNeg) y (t + 1) nR 0 (-1) 0)), (6, .int (nI (nS + 1)))]) X d_tr_send_159 161 rfl (by decide) rfl rfl ?_
                    refine jj_aload_n X d_tr_send_161 162 rfl 0 rfl ?_
                    refine jj_get (v := .ref (q 4)) X d_tr_send_162 165 rfl i_tr 2 f_tr_26 0 rfl rfl (by decide) rfl rfl ?_
                    refine jj_get (v := .ref (q 19)) X d_tr_send_165 168 rfl i_cp 2 f_tr_100 4 rfl rfl (by decide) rfl rfl ?_
                    refine jj_iload_n X d_tr_send_168 169 rfl 1 rfl ?_
                    refine jj_iload X d_tr_send_169 171 rfl 6 rfl ?_
                    refine jj_iast (ws' := tw cI cZ q ((ua (ua (ua (ua (ua (ua (ua (ua A 0 (uz (A 0) 4 (nI (nS + 1)))) 12 (upd (A 12) x.toNatClampNeg (nI (nS + 1)))) 15 (upd (A 15) (nS + 1) x)) 16 (upd (A 16) (nS + 1) (x_qk A nX (A 11 x.toNatClampNeg) y (t + 1) nR 0 (-1) 0))) 17 (upd (A 17) (nS + 1) 0)) 18 (upd (A 18) (nS + 1) (nI t))) 19 (upd (A 19) (nS + 1) (x_fst A nX (x_qk A nX (A 11 x.toNatClampNeg) y (t + 1) nR 0 (-1) 0) (100000 - (t + 1)) (t + 1)))) 20 (upd (A 20) (nS + 1) (-1))))) X d_tr_send_171 172 rfl 19 0 rfl rfl (hx) rfl ?_
                    refine jj_iload X d_tr_send_172 174 rfl 6 rfl ?_
                    exact jj_iret X hr hlk d_tr_send_174 (⟨by simp only [s_send, okS]; simp [hbs, c8, c19, c26, c40, c53, hS, c80, c131], by simp only [s_send, okS]; simp [hes, hbs, c8, c19, c26, c40, c53, hS, c80, c131]⟩)
                  · refine jj_bipush (v := -3) X d_tr_send_134 136 rfl (by decide) ?_
                    exact jj_iret X hr hlk d_tr_send_136 (⟨by simp [s_send, okS, hbs, *], by simp [s_send, okS, hbs, *]⟩)
                · have hes : eS A x (nI t) = t := by simp only [eS, c95, if_false, nI_clamp (show t < 2 ^ 31 by omega)]
                  refine jj_iload_n X d_tr_send_98 99 rfl 3 rfl ?_
                  refine jj_goto X d_tr_send_99 105 (by decide) ?_
                  refine jj_istore (lv' := [(0, .ref (q 0)), (1, .int x), (2, .int y), (3, .int (nI t)), (4, .int (nI t))]) X d_tr_send_105 107 rfl (by decide) rfl rfl ?_
                  refine jj_aload_n X d_tr_send_107 108 rfl 0 rfl ?_
                  refine jj_get (v := .ref (q 2)) X d_tr_send_108 111 rfl i_tr 1 f_tr_19 0 rfl rfl (by decide) rfl rfl ?_
                  refine jj_aload_n X d_tr_send_111 112 rfl 0 rfl ?_
                  refine jj_get (v := .ref (q 4)) X d_tr_send_112 115 rfl i_tr 2 f_tr_26 0 rfl rfl (by decide) rfl rfl ?_
                  refine jj_get (v := .ref (q 18)) X d_tr_send_115 118 rfl i_cp 1 f_tr_103 4 rfl rfl (by decide) rfl rfl ?_
                  refine jj_iload_n X d_tr_send_118 119 rfl 1 rfl ?_
                  refine jj_iald (v := A 11 x.toNatClampNeg) X d_tr_send_119 120 rfl 18 0 rfl rfl (hx) (rfl) ?_
                  refine jj_iload_n X d_tr_send_120 121 rfl 2 rfl ?_
                  refine jj_iload X d_tr_send_121 123 rfl 4 rfl ?_
                  refine jj_callV0 (st := []) X d_tr_send_123 126 rfl (c_ro_findQuickest l D cI cZ q A nX nR (A 11 x.toNatClampNeg) y t hnX hlX hnR hlR (by omega)) g_tr_109 ⟨rfl, w_ro_findQuickest⟩ ⟨(Nat.le_of_ble_eq_true rfl), (Nat.le_of_ble_eq_true rfl)⟩ rfl 2 rfl rfl rfl (Nat.le_of_ble_eq_true rfl) ⟨rfl, rfl⟩ ⟨Nat.zero_le _, Nat.zero_le _⟩ (fun r u hu => ?_)
                  obtain ⟨rfl, rfl⟩ := hu
                  refine jj_istore (lv' := [(0, .ref (q 0)), (1, .int x), (2, .int y), (3, .int (nI t)), (4, .int (nI t)), (5, .int (x_qk A nX (A 11 x.toNatClampNeg) y t nR 0 (-1) 0))]) X d_tr_send_126 128 rfl (by decide) rfl rfl ?_
                  have hbs := (show bS A nR nX x y (nI t) = _ by rw [bS, hes])
                  refine jj_iload X d_tr_send_128 130 rfl 5 rfl ?_
                  refine jj_iconst (v := -1) X d_tr_send_130 131 rfl (by decide) ?_
                  refine jj_icmp_ne X d_tr_send_131 137 134 (by decide) rfl (fun c131 => ?_) (fun c131 => ?_)
                  · obtain ⟨i, hi, ei⟩ := (x_qk_r nR 0 (-1) 0 (Or.inl rfl)).resolve_left c131
                    have hbin : vp_in (nI i) 40 := vp_in_nI (by omega) (by omega)
                    rw [← ei] at hbin
                    refine jj_aload_n X d_tr_send_137 138 rfl 0 rfl ?_
                    refine jj_get (v := .ref (q 5)) X d_tr_send_138 141 rfl i_tr 3 f_tr_33 0 rfl rfl (by decide) rfl rfl ?_
                    refine jj_iload_n X d_tr_send_141 142 rfl 1 rfl ?_
                    refine jj_iload X d_tr_send_142 144 rfl 5 rfl ?_
                    refine jj_iload_n X d_tr_send_144 145 rfl 3 rfl ?_
                    refine jj_aload_n X d_tr_send_145 146 rfl 0 rfl ?_
                    refine jj_get (v := .ref (q 2)) X d_tr_send_146 149 rfl i_tr 1 f_tr_19 0 rfl rfl (by decide) rfl rfl ?_
                    refine jj_iload X d_tr_send_149 151 rfl 5 rfl ?_
                    refine jj_iload X d_tr_send_151 153 rfl 4 rfl ?_
                    refine jj_callV0 (st := [.int (nI t), .int (x_qk A nX (A 11 x.toNatClampNeg) y t nR 0 (-1) 0), .int x, .ref (q 5)]) X d_tr_send_153 156 rfl (c_ro_firstRun l D cI cZ q A nX (x_qk A nX (A 11 x.toNatClampNeg) y t nR 0 (-1) 0) t hnX hlX hbin (by omega)) g_tr_113 ⟨rfl, w_ro_firstRun⟩ ⟨(Nat.le_of_ble_eq_true rfl), (Nat.le_of_ble_eq_true rfl)⟩ rfl 2 rfl rfl rfl (Nat.le_of_ble_eq_true rfl) ⟨rfl, rfl⟩ ⟨Nat.zero_le _, Nat.zero_le _⟩ (fun r u hu => ?_)
                    obtain ⟨rfl, rfl⟩ := hu
                    refine jj_callV0 (st := []) X d_tr_send_156 159 rfl (c_sl_add l D cI cZ q A nS x (x_qk A nX (A 11 x.toNatClampNeg) y t nR 0 (-1) 0) (nI t) (x_fst A nX (x_qk A nX (A 11 x.toNatClampNeg) y t nR 0 (-1) 0) (100000 - t) t) hnS (by omega)) g_tr_117 ⟨rfl, w_sl_add⟩ ⟨(Nat.le_of_ble_eq_true rfl), (Nat.le_of_ble_eq_true rfl)⟩ rfl 5 rfl rfl rfl (Nat.le_of_ble_eq_true rfl) ⟨rfl, rfl⟩ ⟨Nat.zero_le _, Nat.zero_le _⟩ (fun r u hu => ?_)
                    obtain ⟨rfl, rfl⟩ := hu
                    refine jj_istore (lv' := [(0, .ref (q 0)), (1, .int x), (2, .int y), (3, .int (nI t)), (4, .int (nI t)), (5, .int (x_qk A nX (A 11 x.toNatClampNeg) y t nR 0 (-1) 0)), (6, .int (nI (nS + 1)))]) X d_tr_send_159 161 rfl (by decide) rfl rfl ?_
                    refine jj_aload_n X d_tr_send_161 162 rfl 0 rfl ?_
                    refine jj_get (v := .ref (q 4)) X d_tr_send_162 165 rfl i_tr 2 f_tr_26 0 rfl rfl (by decide) rfl rfl ?_
                    refine jj_get (v := .ref (q 19)) X d_tr_send_165 168 rfl i_cp 2 f_tr_100 4 rfl rfl (by decide) rfl rfl ?_
                    refine jj_iload_n X d_tr_send_168 169 rfl 1 rfl ?_
                    refine jj_iload X d_tr_send_169 171 rfl 6 rfl ?_
                    refine jj_iast (ws' := tw cI cZ q ((ua (ua (ua (ua (ua (ua (ua (ua A 0 (uz (A 0) 4 (nI (nS + 1)))) 12 (upd (A 12) x.toNatClampNeg (nI (nS + 1)))) 15 (upd (A 15) (nS + 1) x)) 16 (upd (A 16) (nS + 1) (x_qk A nX (A 11 x.toNatClampNeg) y t nR 0 (-1) 0))) 17 (upd (A 17) (nS + 1) 0)) 18 (upd (A 18) (nS + 1) (nI t))) 19 (upd (A 19) (nS + 1) (x_fst A nX (x_qk A nX (A 11 x.toNatClampNeg) y t nR 0 (-1) 0) (100000 - t) t))) 20 (upd (A 20) (nS + 1) (-1))))) X d_tr_send_171 172 rfl 19 0 rfl rfl (hx) rfl ?_
                    refine jj_iload X d_tr_send_172 174 rfl 6 rfl ?_
                    exact jj_iret X hr hlk d_tr_send_174 (⟨by simp only [s_send, okS]; simp [hbs, c8, c19, c26, c40, c53, hS, c80, c131], by simp only [s_send, okS]; simp [hes, hbs, c8, c19, c26, c40, c53, hS, c80, c131]⟩)
                  · refine jj_bipush (v := -3) X d_tr_send_134 136 rfl (by decide) ?_
                    exact jj_iret X hr hlk d_tr_send_136 (⟨by simp [s_send, okS, hbs, *], by simp [s_send, okS, hbs, *]⟩)
              · refine jj_bipush (v := -2) X d_tr_send_83 85 rfl (by decide) ?_
                exact jj_iret X hr hlk d_tr_send_85 (⟨by simp [s_send, okS, *], by simp [s_send, okS, *]⟩)
            · have hS : nS = 150 := nI_eqD c66 (by omega) (by omega)
              refine jj_iconst (v := 0) X d_tr_send_69 70 rfl (by decide) ?_
              exact jj_iret X hr hlk d_tr_send_70 (⟨by simp [s_send, okS, *], by simp [s_send, okS, *]⟩)
      · have c26 := b2_f c26
        refine jj_iconst (v := 0) X d_tr_send_29 30 rfl (by decide) ?_
        exact jj_iret X hr hlk d_tr_send_30 (⟨by simp [s_send, okS, *], by simp [s_send, okS, *]⟩)
set_option maxRecDepth 100000 in
set_option maxHeartbeats 4000000 in
theorem c_tr_back (l : Launch) (D : va_G) (cI cZ : ClassId) (q : Nat → Nat) (A : Rows) (nS : Nat) (x : Int32) (hnS : A 0 4 = nI nS) (hlS : nS ≤ 150) (hrg : rgC A) : mt_I l D cls_ [(cI, .int), (cZ, .boolean)] nst_ y_tr_back (Cond.code y_tr_back b_tr_back 2 (some .int) :: gt_) (rmd 1) [.ref (q 0), .int x] (tw cI cZ q A) (fun r u => r = (s_back A nS x).1 ∧ u = tw cI cZ q (s_back A nS x).2) := by
  refine mt_I_of (by decide) (Nat.le_of_ble_eq_true rfl) ?_
  intro p e s m below meth c AA X hr hlk
  refine jj_lve (lv' := [(0, .ref (q 0)), (1, .int x)]) rfl ?_
  refine jj_aload_n X d_tr_back_0 1 rfl 0 rfl ?_
  refine jj_get (v := .ref (q 5)) X d_tr_back_1 4 rfl i_tr 3 f_tr_33 0 rfl rfl (by decide) rfl rfl ?_
  refine jj_iload_n X d_tr_back_4 5 rfl 1 rfl ?_
  refine jj_callV0 (st := []) X d_tr_back_5 8 rfl (c_sl_has l D cI cZ q A x) g_tr_120 ⟨rfl, w_sl_has⟩ ⟨(Nat.le_of_ble_eq_true rfl), (Nat.le_of_ble_eq_true rfl)⟩ rfl 5 rfl rfl rfl (Nat.le_of_ble_eq_true rfl) ⟨rfl, rfl⟩ ⟨Nat.zero_le _, Nat.zero_le _⟩ (fun r u hu => ?_)
  obtain ⟨rfl, rfl⟩ := hu
  rw [hnS]
  refine jj_if_eq X d_tr_back_8 23 11 (by decide) rfl (fun c8 => ?_) (fun c8 => ?_)
  · have c8 := b2_f c8
    refine jj_iconst (v := 0) X d_tr_back_23 24 rfl (by decide) ?_
    exact jj_iret X hr hlk d_tr_back_24 (⟨by simp [s_back, *], by simp [s_back, *]⟩)
  · have c8 := b2_t c8
    have hx : vp_in x 151 := h1_in c8 (by rw [nI_toInt (by omega)]; omega)
    refine jj_aload_n X d_tr_back_11 12 rfl 0 rfl ?_
    refine jj_get (v := .ref (q 5)) X d_tr_back_12 15 rfl i_tr 3 f_tr_33 0 rfl rfl (by decide) rfl rfl ?_
    refine jj_get (v := .ref (q 24)) X d_tr_back_15 18 rfl i_sl 2 f_tr_121 5 rfl rfl (by decide) rfl rfl ?_
    refine jj_iload_n X d_tr_back_18 19 rfl 1 rfl ?_
    refine jj_iald (v := A 17 x.toNatClampNeg) X d_tr_back_19 20 rfl 24 0 rfl rfl (by assumption) (rfl) ?_
    refine jj_if_eq X d_tr_back_20 25 23 (by decide) rfl (fun c20 => ?_) (fun c20 => ?_)
    · refine jj_aload_n X d_tr_back_25 26 rfl 0 rfl ?_
      refine jj_get (v := .ref (q 5)) X d_tr_back_26 29 rfl i_tr 3 f_tr_33 0 rfl rfl (by decide) rfl rfl ?_
      refine jj_get (v := .ref (q 24)) X d_tr_back_29 32 rfl i_sl 2 f_tr_121 5 rfl rfl (by decide) rfl rfl ?_
      refine jj_iload_n X d_tr_back_32 33 rfl 1 rfl ?_
      refine jj_iconst (v := 5) X d_tr_back_33 34 rfl (by decide) ?_
      refine jj_iast (ws' := tw cI cZ q ((ua A 17 (upd (A 17) x.toNatClampNeg 5)))) X d_tr_back_34 35 rfl 24 0 rfl rfl (by assumption) rfl ?_
      refine jj_aload_n X d_tr_back_35 36 rfl 0 rfl ?_
      refine jj_get (v := .ref (q 4)) X d_tr_back_36 39 rfl i_tr 2 f_tr_26 0 rfl rfl (by decide) rfl rfl ?_
      refine jj_get (v := .ref (q 19)) X d_tr_back_39 42 rfl i_cp 2 f_tr_100 4 rfl rfl (by decide) rfl rfl ?_
      refine jj_aload_n X d_tr_back_42 43 rfl 0 rfl ?_
      refine jj_get (v := .ref (q 5)) X d_tr_back_43 46 rfl i_tr 3 f_tr_33 0 rfl rfl (by decide) rfl rfl ?_
      refine jj_get (v := .ref (q 22)) X d_tr_back_46 49 rfl i_sl 0 f_tr_124 5 rfl rfl (by decide) rfl rfl ?_
      refine jj_iload_n X d_tr_back_49 50 rfl 1 rfl ?_
      refine jj_iald (v := A 15 x.toNatClampNeg) X d_tr_back_50 51 rfl 22 0 rfl rfl (by assumption) (rfl) ?_
      refine jj_iconst (v := 0) X d_tr_back_51 52 rfl (by decide) ?_
      refine jj_iast (ws' := tw cI cZ q ((ua (ua A 12 (upd (A 12) ((A 15 x.toNatClampNeg).toNatClampNeg) 0)) 17 (upd (A 17) x.toNatClampNeg 5)))) X d_tr_back_52 53 rfl 19 0 rfl rfl (hrg.1 _) rfl ?_
      refine jj_iconst (v := 1) X d_tr_back_53 54 rfl (by decide) ?_
      exact jj_iret X hr hlk d_tr_back_54 (⟨by simp [s_back, *], by simp [s_back, *]⟩)
    · refine jj_iconst (v := 0) X d_tr_back_23 24 rfl (by decide) ?_
      exact jj_iret X hr hlk d_tr_back_24 (⟨by simp [s_back, *], by simp [s_back, *]⟩)
set_option maxRecDepth 100000 in
set_option maxHeartbeats 4000000 in
theorem c_tr_arrive (l : Launch) (D : va_G) (cI cZ : ClassId) (q : Nat → Nat) (A : Rows) (nP : Nat) (nS : Nat) (x y d : Int32) (hnP : A 0 0 = nI nP) (hlP : nP ≤ 12) (hnS : A 0 4 = nI nS) (hlS : nS ≤ 150) (hrg : rgC A) : mt_I l D cls_ [(cI, .int), (cZ, .boolean)] nst_ y_tr_arrive (Cond.code y_tr_arrive b_tr_arrive 6 (some .int) :: gt_) (rmd 1) [.ref (q 0), .int x, .int y, .int d] (tw cI cZ q A) (fun r u => r = (s_arr A nP nS x y d).1 ∧ u = tw cI cZ q (s_arr A nP nS x y d).2) := by
  refine mt_I_of (by decide) (Nat.le_of_ble_eq_true rfl) ?_
  intro p e s m below meth c AA X hr hlk
  refine jj_lve (lv' := [(0, .ref (q 0)), (1, .int x), (2, .int y), (3, .int d)]) rfl ?_
  refine jj_aload_n X d_tr_arrive_0 1 rfl 0 rfl ?_
  refine jj_get (v := .ref (q 5)) X d_tr_arrive_1 4 rfl i_tr 3 f_tr_33 0 rfl rfl (by decide) rfl rfl ?_
  refine jj_iload_n X d_tr_arrive_4 5 rfl 1 rfl ?_
  refine jj_callV0 (st := []) X d_tr_arrive_5 8 rfl (c_sl_has l D cI cZ q A x) g_tr_120 ⟨rfl, w_sl_has⟩ ⟨(Nat.le_of_ble_eq_true rfl), (Nat.le_of_ble_eq_true rfl)⟩ rfl 5 rfl rfl rfl (Nat.le_of_ble_eq_true rfl) ⟨rfl, rfl⟩ ⟨Nat.zero_le _, Nat.zero_le _⟩ (fun r u hu => ?_)
  obtain ⟨rfl, rfl⟩ := hu
  rw [hnS]
  refine jj_if_eq X d_tr_arrive_8 29 11 (by decide) rfl (fun c8 => ?_) (fun c8 => ?_)
  · have c8 := b2_f c8
    refine jj_iconst (v := 0) X d_tr_arrive_29 30 rfl (by decide) ?_
    exact jj_iret X hr hlk d_tr_arrive_30 (⟨by simp [s_arr, okA, *], by simp [s_arr, okA, *]⟩)
  · have c8 := b2_t c8
    refine jj_aload_n X d_tr_arrive_11 12 rfl 0 rfl ?_
    refine jj_get (v := .ref (q 1)) X d_tr_arrive_12 15 rfl i_tr 0 f_tr_10 0 rfl rfl (by decide) rfl rfl ?_
    refine jj_iload_n X d_tr_arrive_15 16 rfl 2 rfl ?_
    refine jj_callV0 (st := []) X d_tr_arrive_16 19 rfl (c_pl_has l D cI cZ q A y) g_tr_63 ⟨rfl, w_pl_has⟩ ⟨(Nat.le_of_ble_eq_true rfl), (Nat.le_of_ble_eq_true rfl)⟩ rfl 1 rfl rfl rfl (Nat.le_of_ble_eq_true rfl) ⟨rfl, rfl⟩ ⟨Nat.zero_le _, Nat.zero_le _⟩ (fun r u hu => ?_)
    obtain ⟨rfl, rfl⟩ := hu
    rw [hnP]
    refine jj_if_eq X d_tr_arrive_19 29 22 (by decide) rfl (fun c19 => ?_) (fun c19 => ?_)
    · have c19 := b2_f c19
      refine jj_iconst (v := 0) X d_tr_arrive_29 30 rfl (by decide) ?_
      exact jj_iret X hr hlk d_tr_arrive_30 (⟨by simp [s_arr, okA, *], by simp [s_arr, okA, *]⟩)
    · have c19 := b2_t c19
      refine jj_iload_n X d_tr_arrive_22 23 rfl 3 rfl ?_
      refine jj_callS0 (st := []) X d_tr_arrive_23 26 rfl (c_tr_isDay l D cI cZ q A d) g_tr_75 ⟨rfl, w_tr_isDay⟩ ⟨(Nat.le_of_ble_eq_true rfl), (Nat.le_of_ble_eq_true rfl)⟩ rfl rfl (Nat.le_of_ble_eq_true rfl) ⟨rfl, rfl⟩ ⟨Nat.zero_le _, Nat.zero_le _⟩ (fun r u hu => ?_)
      obtain ⟨rfl, rfl⟩ := hu
      refine jj_if_ne X d_tr_arrive_26 31 29 (by decide) rfl (fun c26 => ?_) (fun c26 => ?_)
      · have c26 := b2_t c26
        have hx : vp_in x 151 := h1_in c8 (by rw [nI_toInt (by omega)]; omega)
        refine jj_aload_n X d_tr_arrive_31 32 rfl 0 rfl ?_
        refine jj_get (v := .ref (q 5)) X d_tr_arrive_32 35 rfl i_tr 3 f_tr_33 0 rfl rfl (by decide) rfl rfl ?_
        refine jj_iload_n X d_tr_arrive_35 36 rfl 1 rfl ?_
        refine jj_callV0 (st := []) X d_tr_arrive_36 39 rfl (c_sl_isUnderWay l D cI cZ q A x (hx)) g_tr_168 ⟨rfl, w_sl_isUnderWay⟩ ⟨(Nat.le_of_ble_eq_true rfl), (Nat.le_of_ble_eq_true rfl)⟩ rfl 5 rfl rfl rfl (Nat.le_of_ble_eq_true rfl) ⟨rfl, rfl⟩ ⟨Nat.zero_le _, Nat.zero_le _⟩ (fun r u hu => ?_)
        obtain ⟨rfl, rfl⟩ := hu
        refine jj_if_eq X d_tr_arrive_39 55 42 (by decide) rfl (fun c39 => ?_) (fun c39 => ?_)
        · have c39 := b2_f c39
          refine jj_iconst (v := 0) X d_tr_arrive_55 56 rfl (by decide) ?_
          exact jj_iret X hr hlk d_tr_arrive_56 (⟨by simp [s_arr, okA, *], by simp [s_arr, okA, *]⟩)
        · have c39 := b2_t c39
          refine jj_iload_n X d_tr_arrive_42 43 rfl 3 rfl ?_
          refine jj_aload_n X d_tr_arrive_43 44 rfl 0 rfl ?_
          refine jj_get (v := .ref (q 5)) X d_tr_arrive_44 47 rfl i_tr 3 f_tr_33 0 rfl rfl (by decide) rfl rfl ?_
          refine jj_get (v := .ref (q 26)) X d_tr_arrive_47 50 rfl i_sl 4 f_tr_171 5 rfl rfl (by decide) rfl rfl ?_
          refine jj_iload_n X d_tr_arrive_50 51 rfl 1 rfl ?_
          refine jj_iald (v := A 19 x.toNatClampNeg) X d_tr_arrive_51 52 rfl 26 0 rfl rfl (by assumption) (rfl) ?_
          refine jj_icmp_ge X d_tr_arrive_52 57 55 (by decide) rfl (fun c52 => ?_) (fun c52 => ?_)
          · refine jj_aload_n X d_tr_arrive_57 58 rfl 0 rfl ?_
            refine jj_get (v := .ref (q 5)) X d_tr_arrive_58 61 rfl i_tr 3 f_tr_33 0 rfl rfl (by decide) rfl rfl ?_
            refine jj_get (v := .ref (q 22)) X d_tr_arrive_61 64 rfl i_sl 0 f_tr_124 5 rfl rfl (by decide) rfl rfl ?_
            refine jj_iload_n X d_tr_arrive_64 65 rfl 1 rfl ?_
            refine jj_iald (v := A 15 x.toNatClampNeg) X d_tr_arrive_65 66 rfl 22 0 rfl rfl (by assumption) (rfl) ?_
            refine jj_istore (lv' := [(0, .ref (q 0)), (1, .int x), (2, .int y), (3, .int d), (4, .int (A 15 x.toNatClampNeg))]) X d_tr_arrive_66 68 rfl (by decide) rfl rfl ?_
            refine jj_aload_n X d_tr_arrive_68 69 rfl 0 rfl ?_
            refine jj_get (v := .ref (q 2)) X d_tr_arrive_69 72 rfl i_tr 1 f_tr_19 0 rfl rfl (by decide) rfl rfl ?_
            refine jj_get (v := .ref (q 10)) X d_tr_arrive_72 75 rfl i_ro 1 f_tr_144 2 rfl rfl (by decide) rfl rfl ?_
            refine jj_aload_n X d_tr_arrive_75 76 rfl 0 rfl ?_
            refine jj_get (v := .ref (q 5)) X d_tr_arrive_76 79 rfl i_tr 3 f_tr_33 0 rfl rfl (by decide) rfl rfl ?_
            refine jj_get (v := .ref (q 23)) X d_tr_arrive_79 82 rfl i_sl 1 f_tr_174 5 rfl rfl (by decide) rfl rfl ?_
            refine jj_iload_n X d_tr_arrive_82 83 rfl 1 rfl ?_
            refine jj_iald (v := A 16 x.toNatClampNeg) X d_tr_arrive_83 84 rfl 23 0 rfl rfl (by assumption) (rfl) ?_
            refine jj_iald (v := A 3 (A 16 x.toNatClampNeg).toNatClampNeg) X d_tr_arrive_84 85 rfl 10 0 rfl rfl (hrg.2.1 _) (rfl) ?_
            refine jj_iload_n X d_tr_arrive_85 86 rfl 2 rfl ?_
            refine jj_icmp_ne X d_tr_arrive_86 93 89 (by decide) rfl (fun c86 => ?_) (fun c86 => ?_)
            · refine jj_iconst (v := 0) X d_tr_arrive_93 94 rfl (by decide) ?_
              refine jj_istore (lv' := [(0, .ref (q 0)), (1, .int x), (2, .int y), (3, .int d), (4, .int (A 15 x.toNatClampNeg)), (5, .int 0)]) X d_tr_arrive_94 96 rfl (by decide) rfl rfl ?_
              refine jj_aload_n X d_tr_arrive_96 97 rfl 0 rfl ?_
              refine jj_get (v := .ref (q 5)) X d_tr_arrive_97 100 rfl i_tr 3 f_tr_33 0 rfl rfl (by decide) rfl rfl ?_
              refine jj_get (v := .ref (q 24)) X d_tr_arrive_100 103 rfl i_sl 2 f_tr_121 5 rfl rfl (by decide) rfl rfl ?_
              refine jj_iload_n X d_tr_arrive_103 104 rfl 1 rfl ?_
              refine jj_iload X d_tr_arrive_104 106 rfl 5 rfl ?_
              refine jj_if_eq X d_tr_arrive_106 113 109 (by decide) rfl (fun c106 => ?_) (fun c106 => ?_)
              · refine jj_iconst (v := 4) X d_tr_arrive_113 114 rfl (by decide) ?_
                refine jj_iast (ws' := tw cI cZ q ((ua A 17 (upd (A 17) x.toNatClampNeg 4)))) X d_tr_arrive_114 115 rfl 24 0 rfl rfl (by assumption) rfl ?_
                refine jj_aload_n X d_tr_arrive_115 116 rfl 0 rfl ?_
                refine jj_get (v := .ref (q 5)) X d_tr_arrive_116 119 rfl i_tr 3 f_tr_33 0 rfl rfl (by decide) rfl rfl ?_
                refine jj_get (v := .ref (q 27)) X d_tr_arrive_119 122 rfl i_sl 5 f_tr_177 5 rfl rfl (by decide) rfl rfl ?_
                refine jj_iload_n X d_tr_arrive_122 123 rfl 1 rfl ?_
                refine jj_iload_n X d_tr_arrive_123 124 rfl 3 rfl ?_
                refine jj_iast (ws' := tw cI cZ q ((ua (ua A 17 (upd (A 17) x.toNatClampNeg 4)) 20 (upd (A 20) x.toNatClampNeg d)))) X d_tr_arrive_124 125 rfl 27 0 rfl rfl (by assumption) rfl ?_
                refine jj_aload_n X d_tr_arrive_125 126 rfl 0 rfl ?_
                refine jj_get (v := .ref (q 4)) X d_tr_arrive_126 129 rfl i_tr 2 f_tr_26 0 rfl rfl (by decide) rfl rfl ?_
                refine jj_get (v := .ref (q 19)) X d_tr_arrive_129 132 rfl i_cp 2 f_tr_100 4 rfl rfl (by decide) rfl rfl ?_
                refine jj_iload X d_tr_arrive_132 134 rfl 4 rfl ?_
                refine jj_iconst (v := 0) X d_tr_arrive_134 135 rfl (by decide) ?_
                refine jj_iast (ws' := tw cI cZ q ((ua (ua (ua A 12 (upd (A 12) ((A 15 x.toNatClampNeg).toNatClampNeg) 0)) 17 (upd (A 17) x.toNatClampNeg 4)) 20 (upd (A 20) x.toNatClampNeg d)))) X d_tr_arrive_135 136 rfl 19 0 rfl rfl (hrg.1 _) rfl ?_
                refine jj_aload_n X d_tr_arrive_136 137 rfl 0 rfl ?_
                refine jj_get (v := .ref (q 4)) X d_tr_arrive_137 140 rfl i_tr 2 f_tr_26 0 rfl rfl (by decide) rfl rfl ?_
                refine jj_get (v := .ref (q 18)) X d_tr_arrive_140 143 rfl i_cp 1 f_tr_103 4 rfl rfl (by decide) rfl rfl ?_
                refine jj_iload X d_tr_arrive_143 145 rfl 4 rfl ?_
                refine jj_iload_n X d_tr_arrive_145 146 rfl 2 rfl ?_
                refine jj_iast (ws' := tw cI cZ q ((ua (ua (ua (ua A 11 (upd (A 11) ((A 15 x.toNatClampNeg).toNatClampNeg) y)) 12 (upd (A 12) ((A 15 x.toNatClampNeg).toNatClampNeg) 0)) 17 (upd (A 17) x.toNatClampNeg 4)) 20 (upd (A 20) x.toNatClampNeg d)))) X d_tr_arrive_146 147 rfl 18 0 rfl rfl (hrg.1 _) rfl ?_
                refine jj_iload X d_tr_arrive_147 149 rfl 5 rfl ?_
                refine jj_if_eq X d_tr_arrive_149 176 152 (by decide) rfl (fun c149 => ?_) (fun c149 => ?_)
                · refine jj_iload X d_tr_arrive_176 178 rfl 5 rfl ?_
                  refine jj_if_eq X d_tr_arrive_178 185 181 (by decide) rfl (fun c178 => ?_) (fun c178 => ?_)
                  · refine jj_iconst (v := -1) X d_tr_arrive_185 186 rfl (by decide) ?_
                    exact jj_iret X hr hlk d_tr_arrive_186 (⟨by simp [s_arr, okA, *], by simp [s_arr, okA, *]⟩)
                  · exact absurd c178 (by decide)
                · exact absurd c149 (by decide)
              · exact absurd c106 (by decide)
            · refine jj_iconst (v := 1) X d_tr_arrive_89 90 rfl (by decide) ?_
              refine jj_goto X d_tr_arrive_90 94 (by decide) ?_
              refine jj_istore (lv' := [(0, .ref (q 0)), (1, .int x), (2, .int y), (3, .int d), (4, .int (A 15 x.toNatClampNeg)), (5, .int 1)]) X d_tr_arrive_94 96 rfl (by decide) rfl rfl ?_
              refine jj_aload_n X d_tr_arrive_96 97 rfl 0 rfl ?_
              refine jj_get (v := .ref (q 5)) X d_tr_arrive_97 100 rfl i_tr 3 f_tr_33 0 rfl rfl (by decide) rfl rfl ?_
              refine jj_get (v := .ref (q 24)) X d_tr_arrive_100 103 rfl i_sl 2 f_tr_121 5 rfl rfl (by decide) rfl rfl ?_
              refine jj_iload_n X d_tr_arrive_103 104 rfl 1 rfl ?_
              refine jj_iload X d_tr_arrive_104 106 rfl 5 rfl ?_
              refine jj_if_eq X d_tr_arrive_106 113 109 (by decide) rfl (fun c106 => ?_) (fun c106 => ?_)
              · exact absurd c106 (by decide)
              · refine jj_iconst (v := 2) X d_tr_arrive_109 110 rfl (by decide) ?_
                refine jj_goto X d_tr_arrive_110 114 (by decide) ?_
                refine jj_iast (ws' := tw cI cZ q ((ua A 17 (upd (A 17) x.toNatClampNeg 2)))) X d_tr_arrive_114 115 rfl 24 0 rfl rfl (by assumption) rfl ?_
                refine jj_aload_n X d_tr_arrive_115 116 rfl 0 rfl ?_
                refine jj_get (v := .ref (q 5)) X d_tr_arrive_116 119 rfl i_tr 3 f_tr_33 0 rfl rfl (by decide) rfl rfl ?_
                refine jj_get (v := .ref (q 27)) X d_tr_arrive_119 122 rfl i_sl 5 f_tr_177 5 rfl rfl (by decide) rfl rfl ?_
                refine jj_iload_n X d_tr_arrive_122 123 rfl 1 rfl ?_
                refine jj_iload_n X d_tr_arrive_123 124 rfl 3 rfl ?_
                refine jj_iast (ws' := tw cI cZ q ((ua (ua A 17 (upd (A 17) x.toNatClampNeg 2)) 20 (upd (A 20) x.toNatClampNeg d)))) X d_tr_arrive_124 125 rfl 27 0 rfl rfl (by assumption) rfl ?_
                refine jj_aload_n X d_tr_arrive_125 126 rfl 0 rfl ?_
                refine jj_get (v := .ref (q 4)) X d_tr_arrive_126 129 rfl i_tr 2 f_tr_26 0 rfl rfl (by decide) rfl rfl ?_
                refine jj_get (v := .ref (q 19)) X d_tr_arrive_129 132 rfl i_cp 2 f_tr_100 4 rfl rfl (by decide) rfl rfl ?_
                refine jj_iload X d_tr_arrive_132 134 rfl 4 rfl ?_
                refine jj_iconst (v := 0) X d_tr_arrive_134 135 rfl (by decide) ?_
                refine jj_iast (ws' := tw cI cZ q ((ua (ua (ua A 12 (upd (A 12) ((A 15 x.toNatClampNeg).toNatClampNeg) 0)) 17 (upd (A 17) x.toNatClampNeg 2)) 20 (upd (A 20) x.toNatClampNeg d)))) X d_tr_arrive_135 136 rfl 19 0 rfl rfl (hrg.1 _) rfl ?_
                refine jj_aload_n X d_tr_arrive_136 137 rfl 0 rfl ?_
                refine jj_get (v := .ref (q 4)) X d_tr_arrive_137 140 rfl i_tr 2 f_tr_26 0 rfl rfl (by decide) rfl rfl ?_
                refine jj_get (v := .ref (q 18)) X d_tr_arrive_140 143 rfl i_cp 1 f_tr_103 4 rfl rfl (by decide) rfl rfl ?_
                refine jj_iload X d_tr_arrive_143 145 rfl 4 rfl ?_
                refine jj_iload_n X d_tr_arrive_145 146 rfl 2 rfl ?_
                refine jj_iast (ws' := tw cI cZ q ((ua (ua (ua (ua A 11 (upd (A 11) ((A 15 x.toNatClampNeg).toNatClampNeg) y)) 12 (upd (A 12) ((A 15 x.toNatClampNeg).toNatClampNeg) 0)) 17 (upd (A 17) x.toNatClampNeg 2)) 20 (upd (A 20) x.toNatClampNeg d)))) X d_tr_arrive_146 147 rfl 18 0 rfl rfl (hrg.1 _) rfl ?_
                refine jj_iload X d_tr_arrive_147 149 rfl 5 rfl ?_
                refine jj_if_eq X d_tr_arrive_149 176 152 (by decide) rfl (fun c149 => ?_) (fun c149 => ?_)
                · exact absurd c149 (by decide)
                · refine jj_aload_n X d_tr_arrive_152 153 rfl 0 rfl ?_
                  refine jj_get (v := .ref (q 4)) X d_tr_arrive_153 156 rfl i_tr 2 f_tr_26 0 rfl rfl (by decide) rfl rfl ?_
                  refine jj_get (v := .ref (q 21)) X d_tr_arrive_156 159 rfl i_cp 4 f_tr_97 4 rfl rfl (by decide) rfl rfl ?_
                  refine jj_iload X d_tr_arrive_159 161 rfl 4 rfl ?_
                  refine jj_zald (v := A 14 (A 15 x.toNatClampNeg).toNatClampNeg) X d_tr_arrive_161 162 rfl 21 1 rfl rfl (hrg.1 _) (rfl) ?_
                  refine jj_if_eq X d_tr_arrive_162 176 165 (by decide) rfl (fun c162 => ?_) (fun c162 => ?_)
                  · refine jj_iload X d_tr_arrive_176 178 rfl 5 rfl ?_
                    refine jj_if_eq X d_tr_arrive_178 185 181 (by decide) rfl (fun c178 => ?_) (fun c178 => ?_)
                    · exact absurd c178 (by decide)
                    · refine jj_iconst (v := 1) X d_tr_arrive_181 182 rfl (by decide) ?_
                      refine jj_goto X d_tr_arrive_182 186 (by decide) ?_
                      exact jj_iret X hr hlk d_tr_arrive_186 (⟨by simp [s_arr, okA, *], by simp [s_arr, okA, *]⟩)
                  · refine jj_aload_n X d_tr_arrive_165 166 rfl 0 rfl ?_
                    refine jj_get (v := .ref (q 4)) X d_tr_arrive_166 169 rfl i_tr 2 f_tr_26 0 rfl rfl (by decide) rfl rfl ?_
                    refine jj_get (v := .ref (q 17)) X d_tr_arrive_169 172 rfl i_cp 0 f_tr_180 4 rfl rfl (by decide) rfl rfl ?_
                    refine jj_iload X d_tr_arrive_172 174 rfl 4 rfl ?_
                    refine jj_iload_n X d_tr_arrive_174 175 rfl 2 rfl ?_
                    refine jj_iast (ws' := tw cI cZ q ((ua (ua (ua (ua (ua A 10 (upd (A 10) ((A 15 x.toNatClampNeg).toNatClampNeg) y)) 11 (upd (A 11) ((A 15 x.toNatClampNeg).toNatClampNeg) y)) 12 (upd (A 12) ((A 15 x.toNatClampNeg).toNatClampNeg) 0)) 17 (upd (A 17) x.toNatClampNeg 2)) 20 (upd (A 20) x.toNatClampNeg d)))) X d_tr_arrive_175 176 rfl 17 0 rfl rfl (hrg.1 _) rfl ?_
                    refine jj_iload X d_tr_arrive_176 178 rfl 5 rfl ?_
                    refine jj_if_eq X d_tr_arrive_178 185 181 (by decide) rfl (fun c178 => ?_) (fun c178 => ?_)
                    · exact absurd c178 (by decide)
                    · refine jj_iconst (v := 1) X d_tr_arrive_181 182 rfl (by decide) ?_
                      refine jj_goto X d_tr_arrive_182 186 (by decide) ?_
                      exact jj_iret X hr hlk d_tr_arrive_186 (⟨by simp [s_arr, okA, *], by simp [s_arr, okA, *]⟩)
          · have c52 : ¬ A 19 x.toNatClampNeg ≤ d := c52
            refine jj_iconst (v := 0) X d_tr_arrive_55 56 rfl (by decide) ?_
            exact jj_iret X hr hlk d_tr_arrive_56 (⟨by simp [s_arr, okA, *], by simp [s_arr, okA, *]⟩)
      · have c26 := b2_f c26
        refine jj_iconst (v := 0) X d_tr_arrive_29 30 rfl (by decide) ?_
        exact jj_iret X hr hlk d_tr_arrive_30 (⟨by simp [s_arr, okA, *], by simp [s_arr, okA, *]⟩)
set_option maxRecDepth 100000 in
set_option maxHeartbeats 4000000 in
theorem c_tr_lost (l : Launch) (D : va_G) (cI cZ : ClassId) (q : Nat → Nat) (A : Rows) (nS : Nat) (d : Int32) (hnS : A 0 4 = nI nS) (hlS : nS ≤ 150) (hrg : rgC A) : mt_I l D cls_ [(cI, .int), (cZ, .boolean)] nst_ y_tr_lost (Cond.code y_tr_lost b_tr_lost 4 (some .int) :: gt_) (rmd 1) [.ref (q 0), .int d] (tw cI cZ q A) (fun r u => r = (if dC d = true then (x_lost A d nS 1 0 (A 17)).1 else -1) ∧ u = tw cI cZ q (if dC d = true then ua A 17 (x_lost A d nS 1 0 (A 17)).2 else A)) := by
  refine mt_I_of (by decide) (Nat.le_of_ble_eq_true rfl) ?_
  intro p e s m below meth c AA X hr hlk
  refine jj_lve (lv' := [(0, .ref (q 0)), (1, .int d)]) rfl ?_
  refine jj_iload_n X d_tr_lost_0 1 rfl 1 rfl ?_
  refine jj_callS0 (st := []) X d_tr_lost_1 4 rfl (c_tr_isDay l D cI cZ q A d) g_tr_75 ⟨rfl, w_tr_isDay⟩ ⟨(Nat.le_of_ble_eq_true rfl), (Nat.le_of_ble_eq_true rfl)⟩ rfl rfl (Nat.le_of_ble_eq_true rfl) ⟨rfl, rfl⟩ ⟨Nat.zero_le _, Nat.zero_le _⟩ (fun r u hu => ?_)
  obtain ⟨rfl, rfl⟩ := hu
  refine jj_if_ne X d_tr_lost_4 9 7 (by decide) rfl (fun c4 => ?_) (fun c4 => ?_)
  · have c4 := b2_t c4
    refine jj_iconst (v := 0) X d_tr_lost_9 10 rfl (by decide) ?_
    refine jj_istore_n (lv' := [(0, .ref (q 0)), (1, .int d), (2, .int 0)]) X d_tr_lost_10 11 rfl (by decide) rfl rfl ?_
    refine jj_iconst (v := 1) X d_tr_lost_11 12 rfl (by decide) ?_
    refine jj_istore_n (lv' := [(0, .ref (q 0)), (1, .int d), (2, .int 0), (3, .int 1)]) X d_tr_lost_12 13 rfl (by decide) rfl rfl ?_
    refine jj_loop (fun ((j, c0, f) : Nat × Int32 × (Nat → Int32)) => 1 ≤ j ∧ j ≤ nS + 1 ∧ x_lost A d (nS + 1 - j) j c0 f = x_lost A d nS 1 0 (A 17)) (fun ((j, c0, f) : Nat × Int32 × (Nat → Int32)) => nS + 1 - j) (fun ((j, c0, f) : Nat × Int32 × (Nat → Int32)) => [(0, .ref (q 0)), (1, .int d), (2, .int c0), (3, .int (nI j))]) (fun ((j, c0, f) : Nat × Int32 × (Nat → Int32)) => []) (fun ((j, c0, f) : Nat × Int32 × (Nat → Int32)) => tw cI cZ q ((ua A 17 (f)))) ((1, 0, A 17)) (⟨Nat.le_refl _, by simp, rfl⟩) rfl rfl rfl ?_
    rintro ⟨j, c0, f⟩ hI ih13
    try dsimp only at hI ih13 ⊢
    obtain ⟨hj1, hj, hf⟩ := hI
    have hrg : rgC (ua A 17 f) := hrg
    refine jj_iload_n X d_tr_lost_13 14 rfl 3 rfl ?_
    refine jj_aload_n X d_tr_lost_14 15 rfl 0 rfl ?_
    refine jj_get (v := .ref (q 5)) X d_tr_lost_15 18 rfl i_tr 3 f_tr_33 0 rfl rfl (by decide) rfl rfl ?_
    refine jj_get (v := .int (nI nS)) X d_tr_lost_18 21 rfl i_sl 6 f_tr_106 5 rfl rfl (by decide) rfl (by rw [← hnS]; rfl) ?_
    refine jj_icmp_gt X d_tr_lost_21 68 24 (by decide) rfl (fun c21 => ?_) (fun c21 => ?_)
    · have hjn : j = nS + 1 := by have := nI_ltD c21 (by omega) (by omega); omega
      subst hjn
      refine jj_iload_n X d_tr_lost_68 69 rfl 2 rfl ?_
      exact jj_iret X hr hlk d_tr_lost_69 (⟨by rw [if_pos c4, ← hf, Nat.sub_self]; rfl, by rw [if_pos c4, ← hf, Nat.sub_self]; rfl⟩)
    · have hjn : j ≤ nS := nI_nltD c21 (by omega) (by omega)
      refine jj_aload_n X d_tr_lost_24 25 rfl 0 rfl ?_
      refine jj_get (v := .ref (q 5)) X d_tr_lost_25 28 rfl i_tr 3 f_tr_33 0 rfl rfl (by decide) rfl rfl ?_
      refine jj_get (v := .ref (q 24)) X d_tr_lost_28 31 rfl i_sl 2 f_tr_121 5 rfl rfl (by decide) rfl rfl ?_
      refine jj_iload_n X d_tr_lost_31 32 rfl 3 rfl ?_
      refine jj_iald (v := (f) j) X d_tr_lost_32 33 rfl 24 0 rfl rfl (vp_in_nI (by omega) (by omega)) (ar_cl (by omega)) ?_
      refine jj_iconst (v := 1) X d_tr_lost_33 34 rfl (by decide) ?_
      refine jj_icmp_ne X d_tr_lost_34 62 37 (by decide) rfl (fun c34 => ?_) (fun c34 => ?_)
      · refine jj_iinc (v := nI (j + 1)) (lv' := [(0, .ref (q 0)), (1, .int d), (2, .int c0), (3, .int (nI (j + 1)))]) X d_tr_lost_62 65 rfl 3 rfl (ar_inc _) (by decide) rfl rfl ?_
        refine jj_goto X d_tr_lost_65 13 (by decide) ?_
        exact ih13 ((j + 1, c0, f)) (⟨by simp only; omega, by simp only; omega, by simp only; rw [← hf, x_lost_s hjn]; simp [*]⟩) (by simp only; omega)
      · refine jj_iload_n X d_tr_lost_37 38 rfl 1 rfl ?_
        refine jj_aload_n X d_tr_lost_38 39 rfl 0 rfl ?_
        refine jj_iload_n X d_tr_lost_39 40 rfl 3 rfl ?_
        refine jj_callV0 (st := [.int d]) X d_tr_lost_40 43 rfl (c_tr_dueDay l D cI cZ q ((ua A 17 (f))) (nI j) hrg (vp_in_nI (by omega) (by omega))) g_tr_183 ⟨rfl, w_tr_dueDay⟩ ⟨(Nat.le_of_ble_eq_true rfl), (Nat.le_of_ble_eq_true rfl)⟩ rfl 0 rfl rfl rfl (Nat.le_of_ble_eq_true rfl) ⟨rfl, rfl⟩ ⟨Nat.zero_le _, Nat.zero_le _⟩ (fun r u hu => ?_)
        obtain ⟨rfl, rfl⟩ := hu
        refine jj_isub X d_tr_lost_43 44 rfl ?_
        refine jj_bipush (v := 14) X d_tr_lost_44 46 rfl (by decide) ?_
        refine jj_icmp_le X d_tr_lost_46 62 49 (by decide) rfl (fun c46 => ?_) (fun c46 => ?_)
        · have c46 : ¬ 14 < d - duC A (nI j) := Int32.not_lt.mpr c46
          refine jj_iinc (v := nI (j + 1)) (lv' := [(0, .ref (q 0)), (1, .int d), (2, .int c0), (3, .int (nI (j + 1)))]) X d_tr_lost_62 65 rfl 3 rfl (ar_inc _) (by decide) rfl rfl ?_
          refine jj_goto X d_tr_lost_65 13 (by decide) ?_
          exact ih13 ((j + 1, c0, f)) (⟨by simp only; omega, by simp only; omega, by simp only; rw [← hf, x_lost_s hjn]; simp [*]⟩) (by simp only; omega)
        · have c46 : 14 < d - duC A (nI j) := Int32.not_le.mp c46
          refine jj_aload_n X d_tr_lost_49 50 rfl 0 rfl ?_
          refine jj_get (v := .ref (q 5)) X d_tr_lost_50 53 rfl i_tr 3 f_tr_33 0 rfl rfl (by decide) rfl rfl ?_
          refine jj_get (v := .ref (q 24)) X d_tr_lost_53 56 rfl i_sl 2 f_tr_121 5 rfl rfl (by decide) rfl rfl ?_
          refine jj_iload_n X d_tr_lost_56 57 rfl 3 rfl ?_
          refine jj_iconst (v := 3) X d_tr_lost_57 58 rfl (by decide) ?_
          refine jj_iast (ws' := tw cI cZ q ((ua A 17 (upd (f) j 3)))) X d_tr_lost_58 59 rfl 24 0 rfl rfl (vp_in_nI (by omega) (by omega)) (by rw [nI_clamp (by omega)]; rfl) ?_
          refine jj_iinc (v := c0 + 1) (lv' := [(0, .ref (q 0)), (1, .int d), (2, .int (c0 + 1)), (3, .int (nI j))]) X d_tr_lost_59 62 rfl 2 rfl rfl (by decide) rfl rfl ?_
          refine jj_iinc (v := nI (j + 1)) (lv' := [(0, .ref (q 0)), (1, .int d), (2, .int (c0 + 1)), (3, .int (nI (j + 1)))]) X d_tr_lost_62 65 rfl 3 rfl (ar_inc _) (by decide) rfl rfl ?_
          refine jj_goto X d_tr_lost_65 13 (by decide) ?_
          exact ih13 ((j + 1, c0 + 1, upd (f) j 3)) (⟨by simp only; omega, by simp only; omega, by simp only; rw [← hf, x_lost_s hjn]; simp [*]⟩) (by simp only; omega)
  · have c4 := b2_f c4
    refine jj_iconst (v := -1) X d_tr_lost_7 8 rfl (by decide) ?_
    exact jj_iret X hr hlk d_tr_lost_8 (⟨by simp [*], by simp [*]⟩)
set_option maxRecDepth 100000 in
set_option maxHeartbeats 4000000 in
theorem c_tr_slip (l : Launch) (D : va_G) (cI cZ : ClassId) (q : Nat → Nat) (A : Rows) (nS : Nat) (x w : Int32) (hnS : A 0 4 = nI nS) (hlS : nS ≤ 150) (hrg : rgC A) : mt_I l D cls_ [(cI, .int), (cZ, .boolean)] nst_ y_tr_slip (Cond.code y_tr_slip b_tr_slip 3 (some .int) :: gt_) (rmd 1) [.ref (q 0), .int x, .int w] (tw cI cZ q A) (fun r u => r = o_slip A nS x w ∧ u = tw cI cZ q A) := by
  refine mt_I_of (by decide) (Nat.le_of_ble_eq_true rfl) ?_
  intro p e s m below meth c AA X hr hlk
  refine jj_lve (lv' := [(0, .ref (q 0)), (1, .int x), (2, .int w)]) rfl ?_
  refine jj_aload_n X d_tr_slip_0 1 rfl 0 rfl ?_
  refine jj_get (v := .ref (q 5)) X d_tr_slip_1 4 rfl i_tr 3 f_tr_33 0 rfl rfl (by decide) rfl rfl ?_
  refine jj_iload_n X d_tr_slip_4 5 rfl 1 rfl ?_
  refine jj_callV0 (st := []) X d_tr_slip_5 8 rfl (c_sl_has l D cI cZ q A x) g_tr_120 ⟨rfl, w_sl_has⟩ ⟨(Nat.le_of_ble_eq_true rfl), (Nat.le_of_ble_eq_true rfl)⟩ rfl 5 rfl rfl rfl (Nat.le_of_ble_eq_true rfl) ⟨rfl, rfl⟩ ⟨Nat.zero_le _, Nat.zero_le _⟩ (fun r u hu => ?_)
  obtain ⟨rfl, rfl⟩ := hu
  rw [hnS]
  refine jj_if_ne X d_tr_slip_8 13 11 (by decide) rfl (fun c8 => ?_) (fun c8 => ?_)
  · have c8 := b2_t c8
    have hx : vp_in x 151 := h1_in c8 (by rw [nI_toInt (by omega)]; omega)
    refine jj_iload_n X d_tr_slip_13 14 rfl 2 rfl ?_
    by_cases e14_0 : w = 0
    · refine jj_tableIn X d_tr_slip_14 56 (by rw [e14_0]; decide) (by rw [e14_0]; decide) (by rw [e14_0]; rfl) (by decide) ?_
      refine jj_aload_n X d_tr_slip_56 57 rfl 0 rfl ?_
      refine jj_get (v := .ref (q 5)) X d_tr_slip_57 60 rfl i_tr 3 f_tr_33 0 rfl rfl (by decide) rfl rfl ?_
      refine jj_get (v := .ref (q 22)) X d_tr_slip_60 63 rfl i_sl 0 f_tr_124 5 rfl rfl (by decide) rfl rfl ?_
      refine jj_iload_n X d_tr_slip_63 64 rfl 1 rfl ?_
      refine jj_iald (v := A 15 x.toNatClampNeg) X d_tr_slip_64 65 rfl 22 0 rfl rfl (by assumption) (rfl) ?_
      exact jj_iret X hr hlk d_tr_slip_65 (⟨by simp [o_slip, *], rfl⟩)
    by_cases e14_1 : w = 1
    · refine jj_tableIn X d_tr_slip_14 66 (by rw [e14_1]; decide) (by rw [e14_1]; decide) (by rw [e14_1]; rfl) (by decide) ?_
      refine jj_aload_n X d_tr_slip_66 67 rfl 0 rfl ?_
      refine jj_get (v := .ref (q 5)) X d_tr_slip_67 70 rfl i_tr 3 f_tr_33 0 rfl rfl (by decide) rfl rfl ?_
      refine jj_get (v := .ref (q 23)) X d_tr_slip_70 73 rfl i_sl 1 f_tr_174 5 rfl rfl (by decide) rfl rfl ?_
      refine jj_iload_n X d_tr_slip_73 74 rfl 1 rfl ?_
      refine jj_iald (v := A 16 x.toNatClampNeg) X d_tr_slip_74 75 rfl 23 0 rfl rfl (by assumption) (rfl) ?_
      exact jj_iret X hr hlk d_tr_slip_75 (⟨by simp [o_slip, *], rfl⟩)
    by_cases e14_2 : w = 2
    · refine jj_tableIn X d_tr_slip_14 76 (by rw [e14_2]; decide) (by rw [e14_2]; decide) (by rw [e14_2]; rfl) (by decide) ?_
      refine jj_aload_n X d_tr_slip_76 77 rfl 0 rfl ?_
      refine jj_get (v := .ref (q 5)) X d_tr_slip_77 80 rfl i_tr 3 f_tr_33 0 rfl rfl (by decide) rfl rfl ?_
      refine jj_get (v := .ref (q 24)) X d_tr_slip_80 83 rfl i_sl 2 f_tr_121 5 rfl rfl (by decide) rfl rfl ?_
      refine jj_iload_n X d_tr_slip_83 84 rfl 1 rfl ?_
      refine jj_iald (v := A 17 x.toNatClampNeg) X d_tr_slip_84 85 rfl 24 0 rfl rfl (by assumption) (rfl) ?_
      exact jj_iret X hr hlk d_tr_slip_85 (⟨by simp [o_slip, *], rfl⟩)
    by_cases e14_3 : w = 3
    · refine jj_tableIn X d_tr_slip_14 86 (by rw [e14_3]; decide) (by rw [e14_3]; decide) (by rw [e14_3]; rfl) (by decide) ?_
      refine jj_aload_n X d_tr_slip_86 87 rfl 0 rfl ?_
      refine jj_get (v := .ref (q 5)) X d_tr_slip_87 90 rfl i_tr 3 f_tr_33 0 rfl rfl (by decide) rfl rfl ?_
      refine jj_get (v := .ref (q 25)) X d_tr_slip_90 93 rfl i_sl 3 f_tr_186 5 rfl rfl (by decide) rfl rfl ?_
      refine jj_iload_n X d_tr_slip_93 94 rfl 1 rfl ?_
      refine jj_iald (v := A 18 x.toNatClampNeg) X d_tr_slip_94 95 rfl 25 0 rfl rfl (by assumption) (rfl) ?_
      exact jj_iret X hr hlk d_tr_slip_95 (⟨by simp [o_slip, *], rfl⟩)
    by_cases e14_4 : w = 4
    · refine jj_tableIn X d_tr_slip_14 96 (by rw [e14_4]; decide) (by rw [e14_4]; decide) (by rw [e14_4]; rfl) (by decide) ?_
      refine jj_aload_n X d_tr_slip_96 97 rfl 0 rfl ?_
      refine jj_get (v := .ref (q 5)) X d_tr_slip_97 100 rfl i_tr 3 f_tr_33 0 rfl rfl (by decide) rfl rfl ?_
      refine jj_get (v := .ref (q 26)) X d_tr_slip_100 103 rfl i_sl 4 f_tr_171 5 rfl rfl (by decide) rfl rfl ?_
      refine jj_iload_n X d_tr_slip_103 104 rfl 1 rfl ?_
      refine jj_iald (v := A 19 x.toNatClampNeg) X d_tr_slip_104 105 rfl 26 0 rfl rfl (by assumption) (rfl) ?_
      exact jj_iret X hr hlk d_tr_slip_105 (⟨by simp [o_slip, *], rfl⟩)
    by_cases e14_5 : w = 5
    · refine jj_tableIn X d_tr_slip_14 106 (by rw [e14_5]; decide) (by rw [e14_5]; decide) (by rw [e14_5]; rfl) (by decide) ?_
      refine jj_aload_n X d_tr_slip_106 107 rfl 0 rfl ?_
      refine jj_iload_n X d_tr_slip_107 108 rfl 1 rfl ?_
      refine jj_callV0 (st := []) X d_tr_slip_108 111 rfl (c_tr_dueDay l D cI cZ q A x hrg (hx)) g_tr_183 ⟨rfl, w_tr_dueDay⟩ ⟨(Nat.le_of_ble_eq_true rfl), (Nat.le_of_ble_eq_true rfl)⟩ rfl 0 rfl rfl rfl (Nat.le_of_ble_eq_true rfl) ⟨rfl, rfl⟩ ⟨Nat.zero_le _, Nat.zero_le _⟩ (fun r u hu => ?_)
      obtain ⟨rfl, rfl⟩ := hu
      exact jj_iret X hr hlk d_tr_slip_111 (⟨by simp [o_slip, *], rfl⟩)
    by_cases e14_6 : w = 6
    · refine jj_tableIn X d_tr_slip_14 112 (by rw [e14_6]; decide) (by rw [e14_6]; decide) (by rw [e14_6]; rfl) (by decide) ?_
      refine jj_aload_n X d_tr_slip_112 113 rfl 0 rfl ?_
      refine jj_get (v := .ref (q 5)) X d_tr_slip_113 116 rfl i_tr 3 f_tr_33 0 rfl rfl (by decide) rfl rfl ?_
      refine jj_get (v := .ref (q 27)) X d_tr_slip_116 119 rfl i_sl 5 f_tr_177 5 rfl rfl (by decide) rfl rfl ?_
      refine jj_iload_n X d_tr_slip_119 120 rfl 1 rfl ?_
      refine jj_iald (v := A 20 x.toNatClampNeg) X d_tr_slip_120 121 rfl 27 0 rfl rfl (by assumption) (rfl) ?_
      exact jj_iret X hr hlk d_tr_slip_121 (⟨by simp [o_slip, *], rfl⟩)
    refine jj_tableOut X d_tr_slip_14 122 (sw_out 0 6 (by decide) (by decide) (fun z h1 h2 => by rcases (show z = 0 ∨ z = 1 ∨ z = 2 ∨ z = 3 ∨ z = 4 ∨ z = 5 ∨ z = 6 by omega) with rfl | rfl | rfl | rfl | rfl | rfl | rfl <;> assumption)) (by decide) ?_
    refine jj_iconst (v := -1) X d_tr_slip_122 123 rfl (by decide) ?_
    exact jj_iret X hr hlk d_tr_slip_123 (⟨by simp [o_slip, *], rfl⟩)
  · have c8 := b2_f c8
    refine jj_iconst (v := -1) X d_tr_slip_11 12 rfl (by decide) ?_
    exact jj_iret X hr hlk d_tr_slip_12 (⟨by simp [o_slip, *], rfl⟩)
set_option maxRecDepth 100000 in
set_option maxHeartbeats 4000000 in
theorem c_tr_where (l : Launch) (D : va_G) (cI cZ : ClassId) (q : Nat → Nat) (A : Rows) (nC : Nat) (x w : Int32) (hnC : A 0 3 = nI nC) (hlC : nC ≤ 60) : mt_I l D cls_ [(cI, .int), (cZ, .boolean)] nst_ y_tr_where (Cond.code y_tr_where b_tr_where 3 (some .int) :: gt_) (rmd 1) [.ref (q 0), .int x, .int w] (tw cI cZ q A) (fun r u => r = o_wh A nC x w ∧ u = tw cI cZ q A) := by
  refine mt_I_of (by decide) (Nat.le_of_ble_eq_true rfl) ?_
  intro p e s m below meth c AA X hr hlk
  refine jj_lve (lv' := [(0, .ref (q 0)), (1, .int x), (2, .int w)]) rfl ?_
  refine jj_aload_n X d_tr_where_0 1 rfl 0 rfl ?_
  refine jj_get (v := .ref (q 4)) X d_tr_where_1 4 rfl i_tr 2 f_tr_26 0 rfl rfl (by decide) rfl rfl ?_
  refine jj_iload_n X d_tr_where_4 5 rfl 1 rfl ?_
  refine jj_callV0 (st := []) X d_tr_where_5 8 rfl (c_cp_has l D cI cZ q A x) g_tr_93 ⟨rfl, w_cp_has⟩ ⟨(Nat.le_of_ble_eq_true rfl), (Nat.le_of_ble_eq_true rfl)⟩ rfl 4 rfl rfl rfl (Nat.le_of_ble_eq_true rfl) ⟨rfl, rfl⟩ ⟨Nat.zero_le _, Nat.zero_le _⟩ (fun r u hu => ?_)
  obtain ⟨rfl, rfl⟩ := hu
  rw [hnC]
  refine jj_if_ne X d_tr_where_8 13 11 (by decide) rfl (fun c8 => ?_) (fun c8 => ?_)
  · have c8 := b2_t c8
    have hx : vp_in x 61 := h1_in c8 (by rw [nI_toInt (by omega)]; omega)
    refine jj_iload_n X d_tr_where_13 14 rfl 2 rfl ?_
    by_cases e14_0 : w = 0
    · refine jj_tableIn X d_tr_where_14 40 (by rw [e14_0]; decide) (by rw [e14_0]; decide) (by rw [e14_0]; rfl) (by decide) ?_
      refine jj_aload_n X d_tr_where_40 41 rfl 0 rfl ?_
      refine jj_get (v := .ref (q 4)) X d_tr_where_41 44 rfl i_tr 2 f_tr_26 0 rfl rfl (by decide) rfl rfl ?_
      refine jj_get (v := .ref (q 19)) X d_tr_where_44 47 rfl i_cp 2 f_tr_100 4 rfl rfl (by decide) rfl rfl ?_
      refine jj_iload_n X d_tr_where_47 48 rfl 1 rfl ?_
      refine jj_iald (v := A 12 x.toNatClampNeg) X d_tr_where_48 49 rfl 19 0 rfl rfl (by assumption) (rfl) ?_
      refine jj_if_ne X d_tr_where_49 64 52 (by decide) rfl (fun c49 => ?_) (fun c49 => ?_)
      · refine jj_iconst (v := -1) X d_tr_where_64 65 rfl (by decide) ?_
        exact jj_iret X hr hlk d_tr_where_65 (⟨by simp [o_wh, *], rfl⟩)
      · refine jj_aload_n X d_tr_where_52 53 rfl 0 rfl ?_
        refine jj_get (v := .ref (q 4)) X d_tr_where_53 56 rfl i_tr 2 f_tr_26 0 rfl rfl (by decide) rfl rfl ?_
        refine jj_get (v := .ref (q 18)) X d_tr_where_56 59 rfl i_cp 1 f_tr_103 4 rfl rfl (by decide) rfl rfl ?_
        refine jj_iload_n X d_tr_where_59 60 rfl 1 rfl ?_
        refine jj_iald (v := A 11 x.toNatClampNeg) X d_tr_where_60 61 rfl 18 0 rfl rfl (by assumption) (rfl) ?_
        refine jj_goto X d_tr_where_61 65 (by decide) ?_
        exact jj_iret X hr hlk d_tr_where_65 (⟨by simp [o_wh, *], rfl⟩)
    by_cases e14_1 : w = 1
    · refine jj_tableIn X d_tr_where_14 66 (by rw [e14_1]; decide) (by rw [e14_1]; decide) (by rw [e14_1]; rfl) (by decide) ?_
      refine jj_aload_n X d_tr_where_66 67 rfl 0 rfl ?_
      refine jj_get (v := .ref (q 4)) X d_tr_where_67 70 rfl i_tr 2 f_tr_26 0 rfl rfl (by decide) rfl rfl ?_
      refine jj_get (v := .ref (q 17)) X d_tr_where_70 73 rfl i_cp 0 f_tr_180 4 rfl rfl (by decide) rfl rfl ?_
      refine jj_iload_n X d_tr_where_73 74 rfl 1 rfl ?_
      refine jj_iald (v := A 10 x.toNatClampNeg) X d_tr_where_74 75 rfl 17 0 rfl rfl (by assumption) (rfl) ?_
      exact jj_iret X hr hlk d_tr_where_75 (⟨by simp [o_wh, *], rfl⟩)
    by_cases e14_2 : w = 2
    · refine jj_tableIn X d_tr_where_14 76 (by rw [e14_2]; decide) (by rw [e14_2]; decide) (by rw [e14_2]; rfl) (by decide) ?_
      refine jj_aload_n X d_tr_where_76 77 rfl 0 rfl ?_
      refine jj_get (v := .ref (q 4)) X d_tr_where_77 80 rfl i_tr 2 f_tr_26 0 rfl rfl (by decide) rfl rfl ?_
      refine jj_get (v := .ref (q 19)) X d_tr_where_80 83 rfl i_cp 2 f_tr_100 4 rfl rfl (by decide) rfl rfl ?_
      refine jj_iload_n X d_tr_where_83 84 rfl 1 rfl ?_
      refine jj_iald (v := A 12 x.toNatClampNeg) X d_tr_where_84 85 rfl 19 0 rfl rfl (by assumption) (rfl) ?_
      exact jj_iret X hr hlk d_tr_where_85 (⟨by simp [o_wh, *], rfl⟩)
    refine jj_tableOut X d_tr_where_14 86 (sw_out 0 2 (by decide) (by decide) (fun z h1 h2 => by rcases (show z = 0 ∨ z = 1 ∨ z = 2 by omega) with rfl | rfl | rfl <;> assumption)) (by decide) ?_
    refine jj_iconst (v := -1) X d_tr_where_86 87 rfl (by decide) ?_
    exact jj_iret X hr hlk d_tr_where_87 (⟨by simp [o_wh, *], rfl⟩)
  · have c8 := b2_f c8
    refine jj_iconst (v := -1) X d_tr_where_11 12 rfl (by decide) ?_
    exact jj_iret X hr hlk d_tr_where_12 (⟨by simp [o_wh, *], rfl⟩)
set_option maxRecDepth 100000 in
set_option maxHeartbeats 4000000 in
theorem c_tr_told (l : Launch) (D : va_G) (cI cZ : ClassId) (q : Nat → Nat) (A : Rows) (nT : Nat) (x w : Int32) (hnT : A 0 6 = nI nT) (hlT : nT ≤ 100) : mt_I l D cls_ [(cI, .int), (cZ, .boolean)] nst_ y_tr_told (Cond.code y_tr_told b_tr_told 3 (some .int) :: gt_) (rmd 1) [.ref (q 0), .int x, .int w] (tw cI cZ q A) (fun r u => r = o_told A nT x w ∧ u = tw cI cZ q A) := by
  refine mt_I_of (by decide) (Nat.le_of_ble_eq_true rfl) ?_
  intro p e s m below meth c AA X hr hlk
  refine jj_lve (lv' := [(0, .ref (q 0)), (1, .int x), (2, .int w)]) rfl ?_
  refine jj_aload_n X d_tr_told_0 1 rfl 0 rfl ?_
  refine jj_get (v := .ref (q 7)) X d_tr_told_1 4 rfl i_tr 5 f_tr_47 0 rfl rfl (by decide) rfl rfl ?_
  refine jj_iload_n X d_tr_told_4 5 rfl 1 rfl ?_
  refine jj_callV0 (st := []) X d_tr_told_5 8 rfl (c_te_has l D cI cZ q A x) g_tr_199 ⟨rfl, w_te_has⟩ ⟨(Nat.le_of_ble_eq_true rfl), (Nat.le_of_ble_eq_true rfl)⟩ rfl 7 rfl rfl rfl (Nat.le_of_ble_eq_true rfl) ⟨rfl, rfl⟩ ⟨Nat.zero_le _, Nat.zero_le _⟩ (fun r u hu => ?_)
  obtain ⟨rfl, rfl⟩ := hu
  rw [hnT]
  refine jj_if_ne X d_tr_told_8 13 11 (by decide) rfl (fun c8 => ?_) (fun c8 => ?_)
  · have c8 := b2_t c8
    have hx : vp_in x 100 := hN_in c8 (by rw [nI_toInt (by omega)]; omega)
    refine jj_iload_n X d_tr_told_13 14 rfl 2 rfl ?_
    by_cases e14_0 : w = 0
    · refine jj_lookup X d_tr_told_14 40 (by decide) (by first | (rw [e14_0]; done) | (rw [e14_0]; rfl)) (by decide) ?_
      refine jj_aload_n X d_tr_told_40 41 rfl 0 rfl ?_
      refine jj_get (v := .ref (q 7)) X d_tr_told_41 44 rfl i_tr 5 f_tr_47 0 rfl rfl (by decide) rfl rfl ?_
      refine jj_get (v := .ref (q 30)) X d_tr_told_44 47 rfl i_te 0 f_tr_200 7 rfl rfl (by decide) rfl rfl ?_
      refine jj_iload_n X d_tr_told_47 48 rfl 1 rfl ?_
      refine jj_iald (v := A 23 x.toNatClampNeg) X d_tr_told_48 49 rfl 30 0 rfl rfl (by assumption) (rfl) ?_
      exact jj_iret X hr hlk d_tr_told_49 (⟨by simp [o_told, *], rfl⟩)
    by_cases e14_1 : w = 1
    · refine jj_lookup X d_tr_told_14 50 (by decide) (by first | (rw [e14_1]; done) | (rw [e14_1]; rfl)) (by decide) ?_
      refine jj_aload_n X d_tr_told_50 51 rfl 0 rfl ?_
      refine jj_get (v := .ref (q 7)) X d_tr_told_51 54 rfl i_tr 5 f_tr_47 0 rfl rfl (by decide) rfl rfl ?_
      refine jj_get (v := .ref (q 31)) X d_tr_told_54 57 rfl i_te 1 f_tr_203 7 rfl rfl (by decide) rfl rfl ?_
      refine jj_iload_n X d_tr_told_57 58 rfl 1 rfl ?_
      refine jj_iald (v := A 24 x.toNatClampNeg) X d_tr_told_58 59 rfl 31 0 rfl rfl (by assumption) (rfl) ?_
      exact jj_iret X hr hlk d_tr_told_59 (⟨by simp [o_told, *], rfl⟩)
    refine jj_lookup X d_tr_told_14 60 (by decide) (sw_lk (i3_ne e14_0 rfl) (i3_ne e14_1 rfl)) (by decide) ?_
    refine jj_iconst (v := -1) X d_tr_told_60 61 rfl (by decide) ?_
    exact jj_iret X hr hlk d_tr_told_61 (⟨by simp [o_told, *], rfl⟩)
  · have c8 := b2_f c8
    refine jj_iconst (v := -1) X d_tr_told_11 12 rfl (by decide) ?_
    exact jj_iret X hr hlk d_tr_told_12 (⟨by simp [o_told, *], rfl⟩)
set_option maxRecDepth 100000 in
set_option maxHeartbeats 4000000 in
theorem c_tr_loaded (l : Launch) (D : va_G) (cI cZ : ClassId) (q : Nat → Nat) (A : Rows) (nL : Nat) (E : Nat → Nat) (x i : Int32) (hnL : A 0 5 = nI nL) (hlL : nL ≤ 60) (hE : enC A nL E) : mt_I l D cls_ [(cI, .int), (cZ, .boolean)] nst_ y_tr_loaded (Cond.code y_tr_loaded b_tr_loaded 3 (some .int) :: gt_) (rmd 1) [.ref (q 0), .int x, .int i] (tw cI cZ q A) (fun r u => r = o_ld A nL x i ∧ u = tw cI cZ q A) := by
  refine mt_I_of (by decide) (Nat.le_of_ble_eq_true rfl) ?_
  intro p e s m below meth c AA X hr hlk
  refine jj_lve (lv' := [(0, .ref (q 0)), (1, .int x), (2, .int i)]) rfl ?_
  refine jj_aload_n X d_tr_loaded_0 1 rfl 0 rfl ?_
  refine jj_get (v := .ref (q 6)) X d_tr_loaded_1 4 rfl i_tr 4 f_tr_40 0 rfl rfl (by decide) rfl rfl ?_
  refine jj_iload_n X d_tr_loaded_4 5 rfl 1 rfl ?_
  refine jj_callV0 (st := []) X d_tr_loaded_5 8 rfl (c_ld_has l D cI cZ q A x) g_tr_161 ⟨rfl, w_ld_has⟩ ⟨(Nat.le_of_ble_eq_true rfl), (Nat.le_of_ble_eq_true rfl)⟩ rfl 6 rfl rfl rfl (Nat.le_of_ble_eq_true rfl) ⟨rfl, rfl⟩ ⟨Nat.zero_le _, Nat.zero_le _⟩ (fun r u hu => ?_)
  obtain ⟨rfl, rfl⟩ := hu
  rw [hnL]
  refine jj_if_eq X d_tr_loaded_8 27 11 (by decide) rfl (fun c8 => ?_) (fun c8 => ?_)
  · have c8 := b2_f c8
    refine jj_iconst (v := 0) X d_tr_loaded_27 28 rfl (by decide) ?_
    exact jj_iret X hr hlk d_tr_loaded_28 (⟨by simp [o_ld, *], rfl⟩)
  · have c8 := b2_t c8
    obtain ⟨k0, hk0, rfl⟩ := h1_of c8 (by omega)
    refine jj_iload_n X d_tr_loaded_11 12 rfl 2 rfl ?_
    refine jj_if_lt X d_tr_loaded_12 27 15 (by decide) rfl (fun c12 => ?_) (fun c12 => ?_)
    · refine jj_iconst (v := 0) X d_tr_loaded_27 28 rfl (by decide) ?_
      exact jj_iret X hr hlk d_tr_loaded_28 (⟨by simp [o_ld, nI_clamp (show k0 + 1 < 2 ^ 31 by omega), *], rfl⟩)
    · refine jj_iload_n X d_tr_loaded_15 16 rfl 2 rfl ?_
      refine jj_aload_n X d_tr_loaded_16 17 rfl 0 rfl ?_
      refine jj_get (v := .ref (q 6)) X d_tr_loaded_17 20 rfl i_tr 4 f_tr_40 0 rfl rfl (by decide) rfl rfl ?_
      refine jj_iload_n X d_tr_loaded_20 21 rfl 1 rfl ?_
      refine jj_callV0 (st := [.int i]) X d_tr_loaded_21 24 rfl (c_ld_size l D cI cZ q A k0 (by omega)) g_tr_162 ⟨rfl, w_ld_size⟩ ⟨(Nat.le_of_ble_eq_true rfl), (Nat.le_of_ble_eq_true rfl)⟩ rfl 6 rfl rfl rfl (Nat.le_of_ble_eq_true rfl) ⟨rfl, rfl⟩ ⟨Nat.zero_le _, Nat.zero_le _⟩ (fun r u hu => ?_)
      obtain ⟨rfl, rfl⟩ := hu
      refine jj_icmp_lt X d_tr_loaded_24 29 27 (by decide) rfl (fun c24 => ?_) (fun c24 => ?_)
      · refine jj_aload_n X d_tr_loaded_29 30 rfl 0 rfl ?_
        refine jj_get (v := .ref (q 6)) X d_tr_loaded_30 33 rfl i_tr 4 f_tr_40 0 rfl rfl (by decide) rfl rfl ?_
        refine jj_iload_n X d_tr_loaded_33 34 rfl 1 rfl ?_
        refine jj_iload_n X d_tr_loaded_34 35 rfl 2 rfl ?_
        refine jj_callV0 (st := []) X d_tr_loaded_35 38 rfl (c_ld_slipAt l D cI cZ q A k0 i (by omega) (enC_in hE hk0 c12 c24)) g_tr_165 ⟨rfl, w_ld_slipAt⟩ ⟨(Nat.le_of_ble_eq_true rfl), (Nat.le_of_ble_eq_true rfl)⟩ rfl 6 rfl rfl rfl (Nat.le_of_ble_eq_true rfl) ⟨rfl, rfl⟩ ⟨Nat.zero_le _, Nat.zero_le _⟩ (fun r u hu => ?_)
        obtain ⟨rfl, rfl⟩ := hu
        exact jj_iret X hr hlk d_tr_loaded_38 (⟨by simp [o_ld, nI_clamp (show k0 + 1 < 2 ^ 31 by omega), *], rfl⟩)
      · have c24 := c24
        refine jj_iconst (v := 0) X d_tr_loaded_27 28 rfl (by decide) ?_
        exact jj_iret X hr hlk d_tr_loaded_28 (⟨by simp [o_ld, nI_clamp (show k0 + 1 < 2 ^ 31 by omega), *], rfl⟩)
set_option maxRecDepth 100000 in
set_option maxHeartbeats 4000000 in
theorem c_tr_missing (l : Launch) (D : va_G) (cI cZ : ClassId) (q : Nat → Nat) (A : Rows) (nL : Nat) (E : Nat → Nat) (x i : Int32) (hnL : A 0 5 = nI nL) (hlL : nL ≤ 60) (hrg : rgC A) (hE : enC A nL E) : mt_I l D cls_ [(cI, .int), (cZ, .boolean)] nst_ y_tr_missing (Cond.code y_tr_missing b_tr_missing 6 (some .int) :: gt_) (rmd 1) [.ref (q 0), .int x, .int i] (tw cI cZ q A) (fun r u => r = o_mis A nL E x i ∧ u = tw cI cZ q A) := by
  refine mt_I_of (by decide) (Nat.le_of_ble_eq_true rfl) ?_
  intro p e s m below meth c AA X hr hlk
  refine jj_lve (lv' := [(0, .ref (q 0)), (1, .int x), (2, .int i)]) rfl ?_
  refine jj_aload_n X d_tr_missing_0 1 rfl 0 rfl ?_
  refine jj_get (v := .ref (q 6)) X d_tr_missing_1 4 rfl i_tr 4 f_tr_40 0 rfl rfl (by decide) rfl rfl ?_
  refine jj_iload_n X d_tr_missing_4 5 rfl 1 rfl ?_
  refine jj_callV0 (st := []) X d_tr_missing_5 8 rfl (c_ld_has l D cI cZ q A x) g_tr_161 ⟨rfl, w_ld_has⟩ ⟨(Nat.le_of_ble_eq_true rfl), (Nat.le_of_ble_eq_true rfl)⟩ rfl 6 rfl rfl rfl (Nat.le_of_ble_eq_true rfl) ⟨rfl, rfl⟩ ⟨Nat.zero_le _, Nat.zero_le _⟩ (fun r u hu => ?_)
  obtain ⟨rfl, rfl⟩ := hu
  rw [hnL]
  refine jj_if_eq X d_tr_missing_8 15 11 (by decide) rfl (fun c8 => ?_) (fun c8 => ?_)
  · have c8 := b2_f c8
    refine jj_iconst (v := 0) X d_tr_missing_15 16 rfl (by decide) ?_
    exact jj_iret X hr hlk d_tr_missing_16 (⟨by simp [o_mis, *], rfl⟩)
  · have c8 := b2_t c8
    obtain ⟨k0, hk0, rfl⟩ := h1_of c8 (by omega)
    have hsz : A 21 (k0 + 1) - A 21 k0 = nI (E (k0 + 1) - E k0) := by rw [hE.1 k0 (by omega), hE.1 (k0 + 1) (by omega), pk_sub (hE.2.1 k0 hk0)]
    have hE1 := enC_le hE (k0 + 1) (by omega)
    refine jj_iload_n X d_tr_missing_11 12 rfl 2 rfl ?_
    refine jj_if_ge X d_tr_missing_12 17 15 (by decide) rfl (fun c12 => ?_) (fun c12 => ?_)
    · have c12 := Int32.not_lt.mpr c12
      have hom : o_mis A nL E (nI (k0 + 1)) i = x_mis A k0 i (E (k0 + 1) - E k0) 0 0 := by simp [o_mis, nI_clamp (show k0 + 1 < 2 ^ 31 by omega), *]
      refine jj_iconst (v := 0) X d_tr_missing_17 18 rfl (by decide) ?_
      refine jj_istore_n (lv' := [(0, .ref (q 0)), (1, .int (nI (k0 + 1))), (2, .int i), (3, .int 0)]) X d_tr_missing_18 19 rfl (by decide) rfl rfl ?_
      refine jj_iconst (v := 0) X d_tr_missing_19 20 rfl (by decide) ?_
      refine jj_istore (lv' := [(0, .ref (q 0)), (1, .int (nI (k0 + 1))), (2, .int i), (3, .int 0), (4, .int 0)]) X d_tr_missing_20 22 rfl (by decide) rfl rfl ?_
      refine jj_loop (fun ((k, b0) : Nat × Int32) => k ≤ E (k0 + 1) - E k0 ∧ x_mis A k0 i (E (k0 + 1) - E k0 - k) k b0 = x_mis A k0 i (E (k0 + 1) - E k0) 0 0) (fun ((k, b0) : Nat × Int32) => E (k0 + 1) - E k0 - k) (fun ((k, b0) : Nat × Int32) => [(0, .ref (q 0)), (1, .int (nI (k0 + 1))), (2, .int i), (3, .int b0), (4, .int (nI k))]) (fun ((k, b0) : Nat × Int32) => []) (fun ((k, b0) : Nat × Int32) => tw cI cZ q A) ((0, 0)) (⟨Nat.zero_le _, rfl⟩) rfl rfl rfl ?_
      rintro ⟨k, b0⟩ hI ih22
      try dsimp only at hI ih22 ⊢
      obtain ⟨hk, hf⟩ := hI
      refine jj_iload X d_tr_missing_22 24 rfl 4 rfl ?_
      refine jj_aload_n X d_tr_missing_24 25 rfl 0 rfl ?_
      refine jj_get (v := .ref (q 6)) X d_tr_missing_25 28 rfl i_tr 4 f_tr_40 0 rfl rfl (by decide) rfl rfl ?_
      refine jj_iload_n X d_tr_missing_28 29 rfl 1 rfl ?_
      refine jj_callV0 (st := [.int (nI k)]) X d_tr_missing_29 32 rfl (c_ld_size l D cI cZ q A k0 (by omega)) g_tr_162 ⟨rfl, w_ld_size⟩ ⟨(Nat.le_of_ble_eq_true rfl), (Nat.le_of_ble_eq_true rfl)⟩ rfl 6 rfl rfl rfl (Nat.le_of_ble_eq_true rfl) ⟨rfl, rfl⟩ ⟨Nat.zero_le _, Nat.zero_le _⟩ (fun r u hu => ?_)
      obtain ⟨rfl, rfl⟩ := hu
      refine jj_topv (y := nI (E (k0 + 1) - E k0)) (hsz) ?_
      refine jj_icmp_ge X d_tr_missing_32 76 35 (by decide) rfl (fun c32 => ?_) (fun c32 => ?_)
      · have hkn : k = E (k0 + 1) - E k0 := Nat.le_antisymm hk (nI_leD c32 (by omega) (by omega))
        refine jj_iconst (v := 0) X d_tr_missing_76 77 rfl (by decide) ?_
        exact jj_iret X hr hlk d_tr_missing_77 (⟨by rw [hom, ← hf, hkn, Nat.sub_self]; rfl, rfl⟩)
      · have hkn : k < E (k0 + 1) - E k0 := nI_nleD c32 (by omega) (by omega)
        refine jj_aload_n X d_tr_missing_35 36 rfl 0 rfl ?_
        refine jj_get (v := .ref (q 6)) X d_tr_missing_36 39 rfl i_tr 4 f_tr_40 0 rfl rfl (by decide) rfl rfl ?_
        refine jj_iload_n X d_tr_missing_39 40 rfl 1 rfl ?_
        refine jj_iload X d_tr_missing_40 42 rfl 4 rfl ?_
        refine jj_callV0 (st := []) X d_tr_missing_42 45 rfl (c_ld_slipAt l D cI cZ q A k0 (nI k) (by omega) (enC_in hE hk0 (nI_pos (by omega)) (by rw [hsz]; exact nI_lt hkn (by omega)))) g_tr_165 ⟨rfl, w_ld_slipAt⟩ ⟨(Nat.le_of_ble_eq_true rfl), (Nat.le_of_ble_eq_true rfl)⟩ rfl 6 rfl rfl rfl (Nat.le_of_ble_eq_true rfl) ⟨rfl, rfl⟩ ⟨Nat.zero_le _, Nat.zero_le _⟩ (fun r u hu => ?_)
        obtain ⟨rfl, rfl⟩ := hu
        refine jj_istore (lv' := [(0, .ref (q 0)), (1, .int (nI (k0 + 1))), (2, .int i), (3, .int b0), (4, .int (nI k)), (5, .int (A 22 ((A 21 k0) + (nI k)).toNatClampNeg))]) X d_tr_missing_45 47 rfl (by decide) rfl rfl ?_
        refine jj_aload_n X d_tr_missing_47 48 rfl 0 rfl ?_
        refine jj_get (v := .ref (q 5)) X d_tr_missing_48 51 rfl i_tr 3 f_tr_33 0 rfl rfl (by decide) rfl rfl ?_
        refine jj_iload X d_tr_missing_51 53 rfl 5 rfl ?_
        refine jj_callV0 (st := []) X d_tr_missing_53 56 rfl (c_sl_isUnderWay l D cI cZ q A (A 22 ((A 21 k0) + (nI k)).toNatClampNeg) (hrg.2.2.1 _)) g_tr_168 ⟨rfl, w_sl_isUnderWay⟩ ⟨(Nat.le_of_ble_eq_true rfl), (Nat.le_of_ble_eq_true rfl)⟩ rfl 5 rfl rfl rfl (Nat.le_of_ble_eq_true rfl) ⟨rfl, rfl⟩ ⟨Nat.zero_le _, Nat.zero_le _⟩ (fun r u hu => ?_)
        obtain ⟨rfl, rfl⟩ := hu
        refine jj_if_eq X d_tr_missing_56 70 59 (by decide) rfl (fun c56 => ?_) (fun c56 => ?_)
        · have c56 := b2_f c56
          refine jj_iinc (v := nI (k + 1)) (lv' := [(0, .ref (q 0)), (1, .int (nI (k0 + 1))), (2, .int i), (3, .int b0), (4, .int (nI (k + 1))), (5, .int (A 22 ((A 21 k0) + (nI k)).toNatClampNeg))]) X d_tr_missing_70 73 rfl 4 rfl (ar_inc _) (by decide) rfl rfl ?_
          refine jj_goto X d_tr_missing_73 22 (by decide) ?_
          refine jj_lvs (lv' := [(0, .ref (q 0)), (1, .int (nI (k0 + 1))), (2, .int i), (3, .int b0), (4, .int (nI (k + 1)))]) (by simp) ?_
          exact ih22 ((k + 1, b0)) (⟨by simp only; omega, by simp only; rw [← hf, x_mis_s hkn]; simp [*]⟩) (by simp only; omega)
        · have c56 := b2_t c56
          refine jj_iload_n X d_tr_missing_59 60 rfl 3 rfl ?_
          refine jj_iload_n X d_tr_missing_60 61 rfl 2 rfl ?_
          refine jj_icmp_ne X d_tr_missing_61 67 64 (by decide) rfl (fun c61 => ?_) (fun c61 => ?_)
          · refine jj_iinc (v := b0 + 1) (lv' := [(0, .ref (q 0)), (1, .int (nI (k0 + 1))), (2, .int i), (3, .int (b0 + 1)), (4, .int (nI k)), (5, .int (A 22 ((A 21 k0) + (nI k)).toNatClampNeg))]) X d_tr_missing_67 70 rfl 3 rfl rfl (by decide) rfl rfl ?_
            refine jj_iinc (v := nI (k + 1)) (lv' := [(0, .ref (q 0)), (1, .int (nI (k0 + 1))), (2, .int i), (3, .int (b0 + 1)), (4, .int (nI (k + 1))), (5, .int (A 22 ((A 21 k0) + (nI k)).toNatClampNeg))]) X d_tr_missing_70 73 rfl 4 rfl (ar_inc _) (by decide) rfl rfl ?_
            refine jj_goto X d_tr_missing_73 22 (by decide) ?_
            refine jj_lvs (lv' := [(0, .ref (q 0)), (1, .int (nI (k0 + 1))), (2, .int i), (3, .int (b0 + 1)), (4, .int (nI (k + 1)))]) (by simp) ?_
            exact ih22 ((k + 1, b0 + 1)) (⟨by simp only; omega, by simp only; rw [← hf, x_mis_s hkn]; simp [*]⟩) (by simp only; omega)
          · refine jj_iload X d_tr_missing_64 66 rfl 5 rfl ?_
            exact jj_iret X hr hlk d_tr_missing_66 (⟨by rw [hom, ← hf, x_mis_s hkn]; simp [*], rfl⟩)
    · have c12 := Int32.not_le.mp c12
      refine jj_iconst (v := 0) X d_tr_missing_15 16 rfl (by decide) ?_
      exact jj_iret X hr hlk d_tr_missing_16 (⟨by simp [o_mis, nI_clamp (show k0 + 1 < 2 ^ 31 by omega), *], rfl⟩)
