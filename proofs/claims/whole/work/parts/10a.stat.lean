set_option maxRecDepth 100000 in
set_option maxHeartbeats 4000000 in
theorem c_tr_average (l : Launch) (D : va_G) (cI cZ : ClassId) (q : Nat → Nat) (A : Rows) (x y : Int32) (hne : ¬ y = 0) : mt_I l D cls_ [(cI, .int), (cZ, .boolean)] nst_ y_tr_average (Cond.code y_tr_average b_tr_average 2 (some .int) :: gt_) (rmd 0) [.int x, .int y] (tw cI cZ q A) (fun r u => r = x / y ∧ u = tw cI cZ q A) := by
  refine mt_I_of (by decide) (Nat.le_of_ble_eq_true rfl) ?_
  intro p e s m below meth c AA X hr hlk
  refine jj_lve (lv' := [(0, .int x), (1, .int y)]) rfl ?_
  refine jj_iload_n X d_tr_average_0 1 rfl 1 rfl ?_
  refine jj_if_ne X d_tr_average_1 14 4 (by decide) rfl (fun c1 => ?_) (fun c1 => ?_)
  · refine jj_iload_n X d_tr_average_14 15 rfl 0 rfl ?_
    refine jj_iload_n X d_tr_average_15 16 rfl 1 rfl ?_
    refine jj_idiv X d_tr_average_16 17 rfl (hne) ?_
    exact jj_iret X hr hlk d_tr_average_17 (⟨rfl, rfl⟩)
  · exact absurd c1 hne
set_option maxRecDepth 100000 in
set_option maxHeartbeats 4000000 in
theorem c_tr_statistics (l : Launch) (D : va_G) (cI cZ : ClassId) (q : Nat → Nat) (A : Rows) (nP : Nat) (nS : Nat) (a b w : Int32) (hnP : A 0 0 = nI nP) (hlP : nP ≤ 12) (hnS : A 0 4 = nI nS) (hlS : nS ≤ 150) (hrg : rgC A) (hne : ¬ (okT nP a b w = true ∧ w = 3 ∧ (x_st A a b nS 1 0 0 (-1)).1 = 0)) : mt_I l D cls_ [(cI, .int), (cZ, .boolean)] nst_ y_tr_statistics (Cond.code y_tr_statistics b_tr_statistics 9 (some .int) :: gt_) (rmd 2) [.ref (q 0), .int a, .int b, .int w] (tw cI cZ q A) (fun r u => r = (if okT nP a b w = true then o_stM (x_st A a b nS 1 0 0 (-1)) w else -1) ∧ u = tw cI cZ q A) := by
  refine mt_I_of (by decide) (Nat.le_of_ble_eq_true rfl) ?_
  intro p e s m below meth c AA X hr hlk
  refine jj_lve (lv' := [(0, .ref (q 0)), (1, .int a), (2, .int b), (3, .int w)]) rfl ?_
  refine jj_aload_n X d_tr_statistics_0 1 rfl 0 rfl ?_
  refine jj_get (v := .ref (q 1)) X d_tr_statistics_1 4 rfl i_tr 0 f_tr_10 0 rfl rfl (by decide) rfl rfl ?_
  refine jj_iload_n X d_tr_statistics_4 5 rfl 1 rfl ?_
  refine jj_callV0 (st := []) X d_tr_statistics_5 8 rfl (c_pl_has l D cI cZ q A a) g_tr_63 ⟨rfl, w_pl_has⟩ ⟨(Nat.le_of_ble_eq_true rfl), (Nat.le_of_ble_eq_true rfl)⟩ rfl 1 rfl rfl rfl (Nat.le_of_ble_eq_true rfl) ⟨rfl, rfl⟩ ⟨Nat.zero_le _, Nat.zero_le _⟩ (fun r u hu => ?_)
  obtain ⟨rfl, rfl⟩ := hu
  rw [hnP]
  refine jj_if_eq X d_tr_statistics_8 22 11 (by decide) rfl (fun c8 => ?_) (fun c8 => ?_)
  · have c8 := b2_f c8
    refine jj_iconst (v := -1) X d_tr_statistics_22 23 rfl (by decide) ?_
    exact jj_iret X hr hlk d_tr_statistics_23 (⟨by simp [okT, c8], rfl⟩)
  · have c8 := b2_t c8
    refine jj_aload_n X d_tr_statistics_11 12 rfl 0 rfl ?_
    refine jj_get (v := .ref (q 1)) X d_tr_statistics_12 15 rfl i_tr 0 f_tr_10 0 rfl rfl (by decide) rfl rfl ?_
    refine jj_iload_n X d_tr_statistics_15 16 rfl 2 rfl ?_
    refine jj_callV0 (st := []) X d_tr_statistics_16 19 rfl (c_pl_has l D cI cZ q A b) g_tr_63 ⟨rfl, w_pl_has⟩ ⟨(Nat.le_of_ble_eq_true rfl), (Nat.le_of_ble_eq_true rfl)⟩ rfl 1 rfl rfl rfl (Nat.le_of_ble_eq_true rfl) ⟨rfl, rfl⟩ ⟨Nat.zero_le _, Nat.zero_le _⟩ (fun r u hu => ?_)
    obtain ⟨rfl, rfl⟩ := hu
    rw [hnP]
    refine jj_if_ne X d_tr_statistics_19 24 22 (by decide) rfl (fun c19 => ?_) (fun c19 => ?_)
    · have c19 := b2_t c19
      refine jj_iconst (v := 0) X d_tr_statistics_24 25 rfl (by decide) ?_
      refine jj_istore (lv' := [(0, .ref (q 0)), (1, .int a), (2, .int b), (3, .int w), (4, .int 0)]) X d_tr_statistics_25 27 rfl (by decide) rfl rfl ?_
      refine jj_iconst (v := 0) X d_tr_statistics_27 28 rfl (by decide) ?_
      refine jj_istore (lv' := [(0, .ref (q 0)), (1, .int a), (2, .int b), (3, .int w), (4, .int 0), (5, .int 0)]) X d_tr_statistics_28 30 rfl (by decide) rfl rfl ?_
      refine jj_iconst (v := -1) X d_tr_statistics_30 31 rfl (by decide) ?_
      refine jj_istore (lv' := [(0, .ref (q 0)), (1, .int a), (2, .int b), (3, .int w), (4, .int 0), (5, .int 0), (6, .int (-1))]) X d_tr_statistics_31 33 rfl (by decide) rfl rfl ?_
      refine jj_iconst (v := 1) X d_tr_statistics_33 34 rfl (by decide) ?_
      refine jj_istore (lv' := [(0, .ref (q 0)), (1, .int a), (2, .int b), (3, .int w), (4, .int 0), (5, .int 0), (6, .int (-1)), (7, .int 1)]) X d_tr_statistics_34 36 rfl (by decide) rfl rfl ?_
      refine jj_loop (fun ((j, n, s0, m0) : Nat × Int32 × Int32 × Int32) => 1 ≤ j ∧ j ≤ nS + 1 ∧ x_st A a b (nS + 1 - j) j n s0 m0 = (x_st A a b nS 1 0 0 (-1))) (fun ((j, n, s0, m0) : Nat × Int32 × Int32 × Int32) => nS + 1 - j) (fun ((j, n, s0, m0) : Nat × Int32 × Int32 × Int32) => [(0, .ref (q 0)), (1, .int a), (2, .int b), (3, .int w), (4, .int n), (5, .int s0), (6, .int m0), (7, .int (nI j))]) (fun ((j, n, s0, m0) : Nat × Int32 × Int32 × Int32) => []) (fun ((j, n, s0, m0) : Nat × Int32 × Int32 × Int32) => tw cI cZ q A) ((1, 0, 0, -1)) (⟨Nat.le_refl _, by simp, rfl⟩) rfl rfl rfl ?_
      rintro ⟨j, n, s0, m0⟩ hI ih36
      try dsimp only at hI ih36 ⊢
      obtain ⟨hj1, hj, hf⟩ := hI
      refine jj_iload X d_tr_statistics_36 38 rfl 7 rfl ?_
      refine jj_aload_n X d_tr_statistics_38 39 rfl 0 rfl ?_
      refine jj_get (v := .ref (q 5)) X d_tr_statistics_39 42 rfl i_tr 3 f_tr_33 0 rfl rfl (by decide) rfl rfl ?_
      refine jj_get (v := .int (nI nS)) X d_tr_statistics_42 45 rfl i_sl 6 f_tr_106 5 rfl rfl (by decide) rfl (by rw [← hnS]; rfl) ?_
      refine jj_icmp_gt X d_tr_statistics_45 132 48 (by decide) rfl (fun c45 => ?_) (fun c45 => ?_)
      · have hjn : j = nS + 1 := by have := nI_ltD c45 (by omega) (by omega); omega
        rw [hjn, Nat.sub_self] at hf
        have hz : (n, s0, m0) = (x_st A a b nS 1 0 0 (-1)) := hf
        refine jj_iload_n X d_tr_statistics_132 133 rfl 3 rfl ?_
        by_cases e133_0 : w = 0
        · refine jj_tableIn X d_tr_statistics_133 164 (by rw [e133_0]; decide) (by rw [e133_0]; decide) (by rw [e133_0]; rfl) (by decide) ?_
          refine jj_iload X d_tr_statistics_164 166 rfl 4 rfl ?_
          exact jj_iret X hr hlk d_tr_statistics_166 (⟨by rw [← hz]; subst e133_0; simp [okT, o_stM, c8, c19], rfl⟩)
        by_cases e133_1 : w = 1
        · refine jj_tableIn X d_tr_statistics_133 167 (by rw [e133_1]; decide) (by rw [e133_1]; decide) (by rw [e133_1]; rfl) (by decide) ?_
          refine jj_iload X d_tr_statistics_167 169 rfl 5 rfl ?_
          exact jj_iret X hr hlk d_tr_statistics_169 (⟨by rw [← hz]; subst e133_1; simp [okT, o_stM, c8, c19], rfl⟩)
        by_cases e133_2 : w = 2
        · refine jj_tableIn X d_tr_statistics_133 170 (by rw [e133_2]; decide) (by rw [e133_2]; decide) (by rw [e133_2]; rfl) (by decide) ?_
          refine jj_iload X d_tr_statistics_170 172 rfl 6 rfl ?_
          exact jj_iret X hr hlk d_tr_statistics_172 (⟨by rw [← hz]; subst e133_2; simp [okT, o_stM, c8, c19], rfl⟩)
        by_cases e133_3 : w = 3
        · refine jj_tableIn X d_tr_statistics_133 173 (by rw [e133_3]; decide) (by rw [e133_3]; decide) (by rw [e133_3]; rfl) (by decide) ?_
          have hok : okT nP a b w = true := by subst e133_3; simp [okT, c8, c19]
          have hn0 : ¬ n = 0 := fun q9 => hne ⟨hok, e133_3, by rw [← hz]; exact q9⟩
          refine jj_iload X d_tr_statistics_173 175 rfl 5 rfl ?_
          refine jj_iload X d_tr_statistics_175 177 rfl 4 rfl ?_
          refine jj_callS0 (st := []) X d_tr_statistics_177 180 rfl (c_tr_average l D cI cZ q A s0 n hn0) g_tr_196 ⟨rfl, w_tr_average⟩ ⟨(Nat.le_of_ble_eq_true rfl), (Nat.le_of_ble_eq_true rfl)⟩ rfl rfl (Nat.le_of_ble_eq_true rfl) ⟨rfl, rfl⟩ ⟨Nat.zero_le _, Nat.zero_le _⟩ (fun r u hu => ?_)
          obtain ⟨rfl, rfl⟩ := hu
          exact jj_iret X hr hlk d_tr_statistics_180 (⟨by rw [if_pos hok, ← hz]; subst e133_3; simp [o_stM, hn0], rfl⟩)
        refine jj_tableOut X d_tr_statistics_133 181 (sw_out 0 3 (by decide) (by decide) (fun z h1 h2 => by rcases (show z = 0 ∨ z = 1 ∨ z = 2 ∨ z = 3 by omega) with rfl | rfl | rfl | rfl <;> assumption)) (by decide) ?_
        refine jj_iconst (v := -1) X d_tr_statistics_181 182 rfl (by decide) ?_
        exact jj_iret X hr hlk d_tr_statistics_182 (⟨by rw [if_neg (fun q9 => ?_)]; simp only [okT, Bool.and_eq_true, Bool.not_eq_true', decide_eq_false_iff_not, decide_eq_true_eq] at q9; obtain ⟨i, hi, rfl⟩ := i3_lt 3 (by omega) q9.1.2 q9.2; rcases (show i = 0 ∨ i = 1 ∨ i = 2 ∨ i = 3 by omega) with rfl | rfl | rfl | rfl <;> contradiction, rfl⟩)
      · have hjn : j ≤ nS := nI_nltD c45 (by omega) (by omega)
        refine jj_aload_n X d_tr_statistics_48 49 rfl 0 rfl ?_
        refine jj_get (v := .ref (q 5)) X d_tr_statistics_49 52 rfl i_tr 3 f_tr_33 0 rfl rfl (by decide) rfl rfl ?_
        refine jj_get (v := .ref (q 24)) X d_tr_statistics_52 55 rfl i_sl 2 f_tr_121 5 rfl rfl (by decide) rfl rfl ?_
        refine jj_iload X d_tr_statistics_55 57 rfl 7 rfl ?_
        refine jj_iald (v := A 17 j) X d_tr_statistics_57 58 rfl 24 0 rfl rfl (vp_in_nI (by omega) (by omega)) (ar_cl (by omega)) ?_
        refine jj_iconst (v := 2) X d_tr_statistics_58 59 rfl (by decide) ?_
        refine jj_icmp_ne X d_tr_statistics_59 126 62 (by decide) rfl (fun c59 => ?_) (fun c59 => ?_)
        · refine jj_iinc (v := nI (j + 1)) (lv' := [(0, .ref (q 0)), (1, .int a), (2, .int b), (3, .int w), (4, .int n), (5, .int s0), (6, .int m0), (7, .int (nI (j + 1)))]) X d_tr_statistics_126 129 rfl 7 rfl (ar_inc _) (by decide) rfl rfl ?_
          refine jj_goto X d_tr_statistics_129 36 (by decide) ?_
          exact ih36 ((j + 1, n, s0, m0)) (⟨by simp only; omega, by simp only; omega, by simp only; rw [← hf, x_st_s hjn]; simp [c59]⟩) (by simp only; omega)
        · refine jj_aload_n X d_tr_statistics_62 63 rfl 0 rfl ?_
          refine jj_get (v := .ref (q 2)) X d_tr_statistics_63 66 rfl i_tr 1 f_tr_19 0 rfl rfl (by decide) rfl rfl ?_
          refine jj_aload_n X d_tr_statistics_66 67 rfl 0 rfl ?_
          refine jj_get (v := .ref (q 5)) X d_tr_statistics_67 70 rfl i_tr 3 f_tr_33 0 rfl rfl (by decide) rfl rfl ?_
          refine jj_get (v := .ref (q 23)) X d_tr_statistics_70 73 rfl i_sl 1 f_tr_174 5 rfl rfl (by decide) rfl rfl ?_
          refine jj_iload X d_tr_statistics_73 75 rfl 7 rfl ?_
          refine jj_iald (v := A 16 j) X d_tr_statistics_75 76 rfl 23 0 rfl rfl (vp_in_nI (by omega) (by omega)) (ar_cl (by omega)) ?_
          refine jj_iload_n X d_tr_statistics_76 77 rfl 1 rfl ?_
          refine jj_iload_n X d_tr_statistics_77 78 rfl 2 rfl ?_
          refine jj_callV0 (st := []) X d_tr_statistics_78 81 rfl (c_ro_joins l D cI cZ q A (A 16 j) a b (hrg.2.1 _)) g_tr_189 ⟨rfl, w_ro_joins⟩ ⟨(Nat.le_of_ble_eq_true rfl), (Nat.le_of_ble_eq_true rfl)⟩ rfl 2 rfl rfl rfl (Nat.le_of_ble_eq_true rfl) ⟨rfl, rfl⟩ ⟨Nat.zero_le _, Nat.zero_le _⟩ (fun r u hu => ?_)
          obtain ⟨rfl, rfl⟩ := hu
          refine jj_if_eq X d_tr_statistics_81 126 84 (by decide) rfl (fun c81 => ?_) (fun c81 => ?_)
          · have c81 := b2_f c81
            refine jj_iinc (v := nI (j + 1)) (lv' := [(0, .ref (q 0)), (1, .int a), (2, .int b), (3, .int w), (4, .int n), (5, .int s0), (6, .int m0), (7, .int (nI (j + 1)))]) X d_tr_statistics_126 129 rfl 7 rfl (ar_inc _) (by decide) rfl rfl ?_
            refine jj_goto X d_tr_statistics_129 36 (by decide) ?_
            exact ih36 ((j + 1, n, s0, m0)) (⟨by simp only; omega, by simp only; omega, by simp only; rw [← hf, x_st_s hjn]; simp [c59, c81]⟩) (by simp only; omega)
          · have c81 := b2_t c81
            refine jj_aload_n X d_tr_statistics_84 85 rfl 0 rfl ?_
            refine jj_get (v := .ref (q 5)) X d_tr_statistics_85 88 rfl i_tr 3 f_tr_33 0 rfl rfl (by decide) rfl rfl ?_
            refine jj_get (v := .ref (q 27)) X d_tr_statistics_88 91 rfl i_sl 5 f_tr_177 5 rfl rfl (by decide) rfl rfl ?_
            refine jj_iload X d_tr_statistics_91 93 rfl 7 rfl ?_
            refine jj_iald (v := A 20 j) X d_tr_statistics_93 94 rfl 27 0 rfl rfl (vp_in_nI (by omega) (by omega)) (ar_cl (by omega)) ?_
            refine jj_aload_n X d_tr_statistics_94 95 rfl 0 rfl ?_
            refine jj_get (v := .ref (q 5)) X d_tr_statistics_95 98 rfl i_tr 3 f_tr_33 0 rfl rfl (by decide) rfl rfl ?_
            refine jj_get (v := .ref (q 25)) X d_tr_statistics_98 101 rfl i_sl 3 f_tr_186 5 rfl rfl (by decide) rfl rfl ?_
            refine jj_iload X d_tr_statistics_101 103 rfl 7 rfl ?_
            refine jj_iald (v := A 18 j) X d_tr_statistics_103 104 rfl 25 0 rfl rfl (vp_in_nI (by omega) (by omega)) (ar_cl (by omega)) ?_
            refine jj_isub X d_tr_statistics_104 105 rfl ?_
            refine jj_istore (lv' := [(0, .ref (q 0)), (1, .int a), (2, .int b), (3, .int w), (4, .int n), (5, .int s0), (6, .int m0), (7, .int (nI j)), (8, .int ((A 20 j) - (A 18 j)))]) X d_tr_statistics_105 107 rfl (by decide) rfl rfl ?_
            refine jj_iinc (v := n + 1) (lv' := [(0, .ref (q 0)), (1, .int a), (2, .int b), (3, .int w), (4, .int (n + 1)), (5, .int s0), (6, .int m0), (7, .int (nI j)), (8, .int ((A 20 j) - (A 18 j)))]) X d_tr_statistics_107 110 rfl 4 rfl rfl (by decide) rfl rfl ?_
            refine jj_iload X d_tr_statistics_110 112 rfl 5 rfl ?_
            refine jj_iload X d_tr_statistics_112 114 rfl 8 rfl ?_
            refine jj_iadd X d_tr_statistics_114 115 rfl ?_
            refine jj_istore (lv' := [(0, .ref (q 0)), (1, .int a), (2, .int b), (3, .int w), (4, .int (n + 1)), (5, .int (s0 + ((A 20 j) - (A 18 j)))), (6, .int m0), (7, .int (nI j)), (8, .int ((A 20 j) - (A 18 j)))]) X d_tr_statistics_115 117 rfl (by decide) rfl rfl ?_
            refine jj_iload X d_tr_statistics_117 119 rfl 6 rfl ?_
            refine jj_iload X d_tr_statistics_119 121 rfl 8 rfl ?_
            refine jj_mmax X d_tr_statistics_121 124 rfl l_tr_193 a_math_max s_math k_math_max (Nat.le_of_ble_eq_true rfl) (Nat.le_of_ble_eq_true rfl) (Nat.le_of_ble_eq_true rfl) (Nat.le_of_ble_eq_true rfl) ?_
            refine jj_istore (lv' := [(0, .ref (q 0)), (1, .int a), (2, .int b), (3, .int w), (4, .int (n + 1)), (5, .int (s0 + ((A 20 j) - (A 18 j)))), (6, .int (if m0 < ((A 20 j) - (A 18 j)) then ((A 20 j) - (A 18 j)) else m0)), (7, .int (nI j)), (8, .int ((A 20 j) - (A 18 j)))]) X d_tr_statistics_124 126 rfl (by decide) rfl rfl ?_
            refine jj_iinc (v := nI (j + 1)) (lv' := [(0, .ref (q 0)), (1, .int a), (2, .int b), (3, .int w), (4, .int (n + 1)), (5, .int (s0 + ((A 20 j) - (A 18 j)))), (6, .int (if m0 < ((A 20 j) - (A 18 j)) then ((A 20 j) - (A 18 j)) else m0)), (7, .int (nI (j + 1))), (8, .int ((A 20 j) - (A 18 j)))]) X d_tr_statistics_126 129 rfl 7 rfl (ar_inc _) (by decide) rfl rfl ?_
            refine jj_goto X d_tr_statistics_129 36 (by decide) ?_
            refine jj_lvs (lv' := [(0, .ref (q 0)), (1, .int a), (2, .int b), (3, .int w), (4, .int (n + 1)), (5, .int (s0 + ((A 20 j) - (A 18 j)))), (6, .int (if m0 < ((A 20 j) - (A 18 j)) then ((A 20 j) - (A 18 j)) else m0)), (7, .int (nI (j + 1)))]) (by simp) ?_
            exact ih36 ((j + 1, n + 1, s0 + ((A 20 j) - (A 18 j)), if m0 < ((A 20 j) - (A 18 j)) then ((A 20 j) - (A 18 j)) else m0)) (⟨by simp only; omega, by simp only; omega, by simp only; rw [← hf, x_st_s hjn]; simp [c59, c81]⟩) (by simp only; omega)
    · have c19 := b2_f c19
      refine jj_iconst (v := -1) X d_tr_statistics_22 23 rfl (by decide) ?_
      exact jj_iret X hr hlk d_tr_statistics_23 (⟨by simp [okT, c8, c19], rfl⟩)
