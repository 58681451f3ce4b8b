set_option maxRecDepth 100000 in
set_option maxHeartbeats 4000000 in
theorem c_mo_lost (l : Launch) (D : va_G) (cI cZ : ClassId) (q : Nat → Nat) (A : Rows) (nS : Nat) (d : Int32) (hnS : A 0 4 = nI nS) (hlS : nS ≤ 150) (hrg : rgM A) : mt_I l D cls_ [(cI, .int), (cZ, .boolean)] nst_ y_mo_lost (Cond.code y_mo_lost b_mo_lost 4 (some .int) :: gt_) (rmd 1) [.ref (q 0), .int d] (mw cI cZ q A) (fun r u => r = (if dC d = true then (x_losM A d nS 1 0 (A 17)).1 else -1) ∧ u = mw cI cZ q (if dC d = true then ua (T0 A) 17 (x_losM A d nS 1 0 (A 17)).2 else T0 A)) := by
  refine mt_I_of (by decide) (Nat.le_of_ble_eq_true rfl) ?_
  intro p e s m below meth c AA X hr hlk
  refine jj_lve (lv' := [(0, .ref (q 0)), (1, .int d)]) rfl ?_
  refine jj_aload_n X d_mo_lost_0 1 rfl 0 rfl ?_
  refine jj_iconst (v := 0) X d_mo_lost_1 2 rfl (by decide) ?_
  refine jj_put (ty := .int) (ws' := mw cI cZ q ((ua A 0 (uz (A 0) 7 0)))) X d_mo_lost_2 5 rfl i_mo t_mo t_mo_ok n_mo 0 f_mo_38 0 rfl rfl (by decide) rfl rfl (by decide +kernel) rfl rfl (Nat.le_of_ble_eq_true rfl) rfl ?_
  refine jj_iload_n X d_mo_lost_5 6 rfl 1 rfl ?_
  refine jj_callS0 (st := []) X d_mo_lost_6 9 rfl (c_mo_isDay l D cI cZ q ((ua A 0 (uz (A 0) 7 0))) d) g_mo_65 ⟨rfl, w_mo_isDay⟩ ⟨(Nat.le_of_ble_eq_true rfl), (Nat.le_of_ble_eq_true rfl)⟩ rfl rfl (Nat.le_of_ble_eq_true rfl) ⟨rfl, rfl⟩ ⟨Nat.zero_le _, Nat.zero_le _⟩ (fun r u hu => ?_)
  obtain ⟨rfl, rfl⟩ := hu
  refine jj_if_ne X d_mo_lost_9 14 12 (by decide) rfl (fun c9 => ?_) (fun c9 => ?_)
  · have c9 := b2_t c9
    refine jj_iconst (v := 0) X d_mo_lost_14 15 rfl (by decide) ?_
    refine jj_istore_n (lv' := [(0, .ref (q 0)), (1, .int d), (2, .int 0)]) X d_mo_lost_15 16 rfl (by decide) rfl rfl ?_
    refine jj_iconst (v := 1) X d_mo_lost_16 17 rfl (by decide) ?_
    refine jj_istore_n (lv' := [(0, .ref (q 0)), (1, .int d), (2, .int 0), (3, .int 1)]) X d_mo_lost_17 18 rfl (by decide) rfl rfl ?_
    refine jj_loop (fun ((j, c0, f) : Nat × Int32 × (Nat → Int32)) => 1 ≤ j ∧ j ≤ nS + 1 ∧ x_losM A d (nS + 1 - j) j c0 f = x_losM A d nS 1 0 (A 17)) (fun ((j, c0, f) : Nat × Int32 × (Nat → Int32)) => nS + 1 - j) (fun ((j, c0, f) : Nat × Int32 × (Nat → Int32)) => [(0, .ref (q 0)), (1, .int d), (2, .int c0), (3, .int (nI j))]) (fun ((j, c0, f) : Nat × Int32 × (Nat → Int32)) => []) (fun ((j, c0, f) : Nat × Int32 × (Nat → Int32)) => mw cI cZ q ((ua (ua A 0 (uz (A 0) 7 0)) 17 (f)))) ((1, 0, A 17)) (⟨Nat.le_refl _, by simp, rfl⟩) rfl rfl rfl ?_
    rintro ⟨j, c0, f⟩ hI ih18
    try dsimp only at hI ih18 ⊢
    obtain ⟨hj1, hj, hf⟩ := hI
    have h40 := vp_lt (hrg.2.1 j)
    refine jj_iload_n X d_mo_lost_18 19 rfl 3 rfl ?_
    refine jj_aload_n X d_mo_lost_19 20 rfl 0 rfl ?_
    refine jj_get (v := .int (nI nS)) X d_mo_lost_20 23 rfl i_mo 12 f_mo_51 0 rfl rfl (by decide) rfl (by rw [← hnS]; rfl) ?_
    refine jj_icmp_gt X d_mo_lost_23 102 26 (by decide) rfl (fun c23 => ?_) (fun c23 => ?_)
    · have hjn : j = nS + 1 := by have := nI_ltD c23 (by omega) (by omega); omega
      subst hjn
      refine jj_iload_n X d_mo_lost_102 103 rfl 2 rfl ?_
      exact jj_iret X hr hlk d_mo_lost_103 (⟨by rw [if_pos c9, ← hf, Nat.sub_self]; rfl, by rw [if_pos c9, ← hf, Nat.sub_self]; rfl⟩)
    · have hjn : j ≤ nS := nI_nltD c23 (by omega) (by omega)
      have hdu : duC A (nI j) = A 19 j + A 5 (A 16 j).toNatClampNeg := by simp only [duC, nI_clamp (show j < 2 ^ 31 by omega)]
      refine jj_aload_n X d_mo_lost_26 27 rfl 0 rfl ?_
      refine jj_get (v := .ref (q 8)) X d_mo_lost_27 30 rfl i_mo 13 f_mo_32 0 rfl rfl (by decide) rfl rfl ?_
      refine jj_bipush (v := 8) X d_mo_lost_30 32 rfl (by decide) ?_
      refine jj_iload_n X d_mo_lost_32 33 rfl 3 rfl ?_
      refine jj_imul X d_mo_lost_33 34 rfl ?_
      refine jj_topv (y := nI (8 * j)) (pk_mul 8 _) ?_
      refine jj_iconst (v := 2) X d_mo_lost_34 35 rfl (by decide) ?_
      refine jj_iadd X d_mo_lost_35 36 rfl ?_
      refine jj_topv (y := nI (8 * j + 2)) (nI_add _ 2) ?_
      refine jj_iald (v := (f) j) X d_mo_lost_36 37 rfl 8 0 rfl rfl (vp_in_nI (by omega) (by omega)) ((ar_cl (by omega)).trans (mxr8_2 _)) ?_
      refine jj_iconst (v := 1) X d_mo_lost_37 38 rfl (by decide) ?_
      refine jj_icmp_ne X d_mo_lost_38 96 41 (by decide) rfl (fun c38 => ?_) (fun c38 => ?_)
      · refine jj_iinc (v := nI (j + 1)) (lv' := [(0, .ref (q 0)), (1, .int d), (2, .int c0), (3, .int (nI (j + 1)))]) X d_mo_lost_96 99 rfl 3 rfl (ar_inc _) (by decide) rfl rfl ?_
        refine jj_goto X d_mo_lost_99 18 (by decide) ?_
        exact ih18 ((j + 1, c0, f)) (⟨by simp only; omega, by simp only; omega, by simp only; rw [← hf, x_losM_s hjn]; simp [c38]⟩) (by simp only; omega)
      · refine jj_aload_n X d_mo_lost_41 42 rfl 0 rfl ?_
        refine jj_get (v := .ref (q 8)) X d_mo_lost_42 45 rfl i_mo 13 f_mo_32 0 rfl rfl (by decide) rfl rfl ?_
        refine jj_bipush (v := 8) X d_mo_lost_45 47 rfl (by decide) ?_
        refine jj_iload_n X d_mo_lost_47 48 rfl 3 rfl ?_
        refine jj_imul X d_mo_lost_48 49 rfl ?_
        refine jj_topv (y := nI (8 * j)) (pk_mul 8 _) ?_
        refine jj_iconst (v := 4) X d_mo_lost_49 50 rfl (by decide) ?_
        refine jj_iadd X d_mo_lost_50 51 rfl ?_
        refine jj_topv (y := nI (8 * j + 4)) (nI_add _ 4) ?_
        refine jj_iald (v := A 19 j) X d_mo_lost_51 52 rfl 8 0 rfl rfl (vp_in_nI (by omega) (by omega)) ((ar_cl (by omega)).trans (mxr8_4 _)) ?_
        refine jj_aload_n X d_mo_lost_52 53 rfl 0 rfl ?_
        refine jj_get (v := .ref (q 2)) X d_mo_lost_53 56 rfl i_mo 4 f_mo_13 0 rfl rfl (by decide) rfl rfl ?_
        refine jj_bipush (v := 6) X d_mo_lost_56 58 rfl (by decide) ?_
        refine jj_aload_n X d_mo_lost_58 59 rfl 0 rfl ?_
        refine jj_get (v := .ref (q 8)) X d_mo_lost_59 62 rfl i_mo 13 f_mo_32 0 rfl rfl (by decide) rfl rfl ?_
        refine jj_bipush (v := 8) X d_mo_lost_62 64 rfl (by decide) ?_
        refine jj_iload_n X d_mo_lost_64 65 rfl 3 rfl ?_
        refine jj_imul X d_mo_lost_65 66 rfl ?_
        refine jj_topv (y := nI (8 * j)) (pk_mul 8 _) ?_
        refine jj_iconst (v := 1) X d_mo_lost_66 67 rfl (by decide) ?_
        refine jj_iadd X d_mo_lost_67 68 rfl ?_
        refine jj_topv (y := nI (8 * j + 1)) (nI_1 _) ?_
        refine jj_iald (v := A 16 j) X d_mo_lost_68 69 rfl 8 0 rfl rfl (vp_in_nI (by omega) (by omega)) ((ar_cl (by omega)).trans (mxr8_1 _)) ?_
        refine jj_topv (y := nI (A 16 j).toNatClampNeg) (vp_nI (hrg.2.1 _)) ?_
        refine jj_imul X d_mo_lost_69 70 rfl ?_
        refine jj_topv (y := nI (6 * (A 16 j).toNatClampNeg)) (pk_mul 6 _) ?_
        refine jj_iconst (v := 3) X d_mo_lost_70 71 rfl (by decide) ?_
        refine jj_iadd X d_mo_lost_71 72 rfl ?_
        refine jj_topv (y := nI (6 * (A 16 j).toNatClampNeg + 3)) (nI_add _ 3) ?_
        refine jj_iald (v := A 5 (A 16 j).toNatClampNeg) X d_mo_lost_72 73 rfl 2 0 rfl rfl (vp_in_nI (by omega) (by omega)) ((ar_cl (by omega)).trans (mxr6_3 _)) ?_
        refine jj_iadd X d_mo_lost_73 74 rfl ?_
        refine jj_iload_n X d_mo_lost_74 75 rfl 1 rfl ?_
        refine jj_bipush (v := 14) X d_mo_lost_75 77 rfl (by decide) ?_
        refine jj_isub X d_mo_lost_77 78 rfl ?_
        refine jj_icmp_ge X d_mo_lost_78 96 81 (by decide) rfl (fun c78 => ?_) (fun c78 => ?_)
        · have c78 := Int32.not_lt.mpr c78
          rw [← hdu] at c78
          refine jj_iinc (v := nI (j + 1)) (lv' := [(0, .ref (q 0)), (1, .int d), (2, .int c0), (3, .int (nI (j + 1)))]) X d_mo_lost_96 99 rfl 3 rfl (ar_inc _) (by decide) rfl rfl ?_
          refine jj_goto X d_mo_lost_99 18 (by decide) ?_
          exact ih18 ((j + 1, c0, f)) (⟨by simp only; omega, by simp only; omega, by simp only; rw [← hf, x_losM_s hjn]; simp [c38, c78]⟩) (by simp only; omega)
        · have c78 := Int32.not_le.mp c78
          rw [← hdu] at c78
          refine jj_aload_n X d_mo_lost_81 82 rfl 0 rfl ?_
          refine jj_get (v := .ref (q 8)) X d_mo_lost_82 85 rfl i_mo 13 f_mo_32 0 rfl rfl (by decide) rfl rfl ?_
          refine jj_bipush (v := 8) X d_mo_lost_85 87 rfl (by decide) ?_
          refine jj_iload_n X d_mo_lost_87 88 rfl 3 rfl ?_
          refine jj_imul X d_mo_lost_88 89 rfl ?_
          refine jj_topv (y := nI (8 * j)) (pk_mul 8 _) ?_
          refine jj_iconst (v := 2) X d_mo_lost_89 90 rfl (by decide) ?_
          refine jj_iadd X d_mo_lost_90 91 rfl ?_
          refine jj_topv (y := nI (8 * j + 2)) (nI_add _ 2) ?_
          refine jj_iconst (v := 3) X d_mo_lost_91 92 rfl (by decide) ?_
          refine jj_iast (ws' := mw cI cZ q ((ua (ua A 0 (uz (A 0) 7 0)) 17 (upd (f) j 3)))) X d_mo_lost_92 93 rfl 8 0 rfl rfl (vp_in_nI (by omega) (by omega)) (by rw [nI_clamp (by omega)]; exact congrArg (fun z => List.set (mw cI cZ q ((ua (ua A 0 (uz (A 0) 7 0)) 17 (f)))) 8 (q 8, .inl (cI, 1208, .inl z))) (mxu8_2 _ _)) ?_
          refine jj_iinc (v := c0 + 1) (lv' := [(0, .ref (q 0)), (1, .int d), (2, .int (c0 + 1)), (3, .int (nI j))]) X d_mo_lost_93 96 rfl 2 rfl rfl (by decide) rfl rfl ?_
          refine jj_iinc (v := nI (j + 1)) (lv' := [(0, .ref (q 0)), (1, .int d), (2, .int (c0 + 1)), (3, .int (nI (j + 1)))]) X d_mo_lost_96 99 rfl 3 rfl (ar_inc _) (by decide) rfl rfl ?_
          refine jj_goto X d_mo_lost_99 18 (by decide) ?_
          exact ih18 ((j + 1, c0 + 1, upd (f) j 3)) (⟨by simp only; omega, by simp only; omega, by simp only; rw [← hf, x_losM_s hjn]; simp [c38, c78]⟩) (by simp only; omega)
  · have c9 := b2_f c9
    refine jj_iconst (v := -1) X d_mo_lost_12 13 rfl (by decide) ?_
    exact jj_iret X hr hlk d_mo_lost_13 (⟨by simp [*], by simp [*]; rfl⟩)
set_option maxRecDepth 100000 in
set_option maxHeartbeats 4000000 in
theorem c_mo_loaded (l : Launch) (D : va_G) (cI cZ : ClassId) (q : Nat → Nat) (A : Rows) (nS : Nat) (x i : Int32) (hnS : A 0 4 = nI nS) (hlS : nS ≤ 150) : mt_I l D cls_ [(cI, .int), (cZ, .boolean)] nst_ y_mo_loaded (Cond.code y_mo_loaded b_mo_loaded 4 (some .int) :: gt_) (rmd 0) [.ref (q 0), .int x, .int i] (mw cI cZ q A) (fun r u => r = (if x ≤ 0 then 0 else x_ldM A x i nS 1) ∧ u = mw cI cZ q (T0 A)) := by
  refine mt_I_of (by decide) (Nat.le_of_ble_eq_true rfl) ?_
  intro p e s m below meth c AA X hr hlk
  refine jj_lve (lv' := [(0, .ref (q 0)), (1, .int x), (2, .int i)]) rfl ?_
  refine jj_aload_n X d_mo_loaded_0 1 rfl 0 rfl ?_
  refine jj_iconst (v := 0) X d_mo_loaded_1 2 rfl (by decide) ?_
  refine jj_put (ty := .int) (ws' := mw cI cZ q ((ua A 0 (uz (A 0) 7 0)))) X d_mo_loaded_2 5 rfl i_mo t_mo t_mo_ok n_mo 0 f_mo_38 0 rfl rfl (by decide) rfl rfl (by decide +kernel) rfl rfl (Nat.le_of_ble_eq_true rfl) rfl ?_
  refine jj_iconst (v := 1) X d_mo_loaded_5 6 rfl (by decide) ?_
  refine jj_istore_n (lv' := [(0, .ref (q 0)), (1, .int x), (2, .int i), (3, .int 1)]) X d_mo_loaded_6 7 rfl (by decide) rfl rfl ?_
  refine jj_loop (fun (j : Nat) => 1 ≤ j ∧ j ≤ nS + 1 ∧ x_ldM A x i (nS + 1 - j) j = x_ldM A x i nS 1) (fun (j : Nat) => nS + 1 - j) (fun (j : Nat) => [(0, .ref (q 0)), (1, .int x), (2, .int i), (3, .int (nI j))]) (fun (j : Nat) => []) (fun (j : Nat) => mw cI cZ q ((ua A 0 (uz (A 0) 7 0)))) (1) (⟨Nat.le_refl _, by simp, rfl⟩) rfl rfl rfl ?_
  rintro j hI ih7
  try dsimp only at hI ih7 ⊢
  obtain ⟨hj1, hj, hf⟩ := hI
  refine jj_iload_n X d_mo_loaded_7 8 rfl 3 rfl ?_
  refine jj_aload_n X d_mo_loaded_8 9 rfl 0 rfl ?_
  refine jj_get (v := .int (nI nS)) X d_mo_loaded_9 12 rfl i_mo 12 f_mo_51 0 rfl rfl (by decide) rfl (by rw [← hnS]; rfl) ?_
  refine jj_icmp_gt X d_mo_loaded_12 59 15 (by decide) rfl (fun c12 => ?_) (fun c12 => ?_)
  · have hjn : j = nS + 1 := by have := nI_ltD c12 (by omega) (by omega); omega
    subst hjn
    refine jj_iconst (v := 0) X d_mo_loaded_59 60 rfl (by decide) ?_
    exact jj_iret X hr hlk d_mo_loaded_60 (⟨by rw [← hf, Nat.sub_self]; simp [x_ldM], rfl⟩)
  · have hjn : j ≤ nS := nI_nltD c12 (by omega) (by omega)
    refine jj_iload_n X d_mo_loaded_15 16 rfl 1 rfl ?_
    refine jj_if_le X d_mo_loaded_16 59 19 (by decide) rfl (fun c16 => ?_) (fun c16 => ?_)
    · refine jj_iconst (v := 0) X d_mo_loaded_59 60 rfl (by decide) ?_
      exact jj_iret X hr hlk d_mo_loaded_60 (⟨by rw [if_pos c16], rfl⟩)
    · refine jj_aload_n X d_mo_loaded_19 20 rfl 0 rfl ?_
      refine jj_get (v := .ref (q 8)) X d_mo_loaded_20 23 rfl i_mo 13 f_mo_32 0 rfl rfl (by decide) rfl rfl ?_
      refine jj_bipush (v := 8) X d_mo_loaded_23 25 rfl (by decide) ?_
      refine jj_iload_n X d_mo_loaded_25 26 rfl 3 rfl ?_
      refine jj_imul X d_mo_loaded_26 27 rfl ?_
      refine jj_topv (y := nI (8 * j)) (pk_mul 8 _) ?_
      refine jj_bipush (v := 6) X d_mo_loaded_27 29 rfl (by decide) ?_
      refine jj_iadd X d_mo_loaded_29 30 rfl ?_
      refine jj_topv (y := nI (8 * j + 6)) (nI_add _ 6) ?_
      refine jj_iald (v := A 21 j) X d_mo_loaded_30 31 rfl 8 0 rfl rfl (vp_in_nI (by omega) (by omega)) ((ar_cl (by omega)).trans (mxr8_6 _)) ?_
      refine jj_iload_n X d_mo_loaded_31 32 rfl 1 rfl ?_
      refine jj_icmp_ne X d_mo_loaded_32 53 35 (by decide) rfl (fun c32 => ?_) (fun c32 => ?_)
      · refine jj_iinc (v := nI (j + 1)) (lv' := [(0, .ref (q 0)), (1, .int x), (2, .int i), (3, .int (nI (j + 1)))]) X d_mo_loaded_53 56 rfl 3 rfl (ar_inc _) (by decide) rfl rfl ?_
        refine jj_goto X d_mo_loaded_56 7 (by decide) ?_
        exact ih7 (j + 1) (⟨by omega, by omega, by rw [← hf, x_ldM_s hjn]; simp [*]⟩) (by omega)
      · refine jj_aload_n X d_mo_loaded_35 36 rfl 0 rfl ?_
        refine jj_get (v := .ref (q 8)) X d_mo_loaded_36 39 rfl i_mo 13 f_mo_32 0 rfl rfl (by decide) rfl rfl ?_
        refine jj_bipush (v := 8) X d_mo_loaded_39 41 rfl (by decide) ?_
        refine jj_iload_n X d_mo_loaded_41 42 rfl 3 rfl ?_
        refine jj_imul X d_mo_loaded_42 43 rfl ?_
        refine jj_topv (y := nI (8 * j)) (pk_mul 8 _) ?_
        refine jj_bipush (v := 7) X d_mo_loaded_43 45 rfl (by decide) ?_
        refine jj_iadd X d_mo_loaded_45 46 rfl ?_
        refine jj_topv (y := nI (8 * j + 7)) (nI_add _ 7) ?_
        refine jj_iald (v := A 22 j) X d_mo_loaded_46 47 rfl 8 0 rfl rfl (vp_in_nI (by omega) (by omega)) ((ar_cl (by omega)).trans (mxr8_7 _)) ?_
        refine jj_iload_n X d_mo_loaded_47 48 rfl 2 rfl ?_
        refine jj_icmp_ne X d_mo_loaded_48 53 51 (by decide) rfl (fun c48 => ?_) (fun c48 => ?_)
        · refine jj_iinc (v := nI (j + 1)) (lv' := [(0, .ref (q 0)), (1, .int x), (2, .int i), (3, .int (nI (j + 1)))]) X d_mo_loaded_53 56 rfl 3 rfl (ar_inc _) (by decide) rfl rfl ?_
          refine jj_goto X d_mo_loaded_56 7 (by decide) ?_
          exact ih7 (j + 1) (⟨by omega, by omega, by rw [← hf, x_ldM_s hjn]; simp [*]⟩) (by omega)
        · refine jj_iload_n X d_mo_loaded_51 52 rfl 3 rfl ?_
          exact jj_iret X hr hlk d_mo_loaded_52 (⟨by rw [if_neg c16, ← hf, x_ldM_s hjn]; simp [*], rfl⟩)
set_option maxRecDepth 100000 in
set_option maxHeartbeats 4000000 in
theorem c_mo_bin (l : Launch) (D : va_G) (cI cZ : ClassId) (q : Nat → Nat) (A : Rows) (nS : Nat) (a b i : Int32) (hnS : A 0 4 = nI nS) (hlS : nS ≤ 150) (hrg : rgM A) : mt_I l D cls_ [(cI, .int), (cZ, .boolean)] nst_ y_mo_bin (Cond.code y_mo_bin b_mo_bin 7 (some .int) :: gt_) (rmd 1) [.ref (q 0), .int a, .int b, .int i] (mw cI cZ q A) (fun r u => r = (if i < 0 then 0 else x_binM A (pBin A a b) nS i nS 1) ∧ u = mw cI cZ q (T0 A)) := by
  refine mt_I_of (by decide) (Nat.le_of_ble_eq_true rfl) ?_
  intro p e s m below meth c AA X hr hlk
  refine jj_lve (lv' := [(0, .ref (q 0)), (1, .int a), (2, .int b), (3, .int i)]) rfl ?_
  refine jj_aload_n X d_mo_bin_0 1 rfl 0 rfl ?_
  refine jj_iconst (v := 0) X d_mo_bin_1 2 rfl (by decide) ?_
  refine jj_put (ty := .int) (ws' := mw cI cZ q ((ua A 0 (uz (A 0) 7 0)))) X d_mo_bin_2 5 rfl i_mo t_mo t_mo_ok n_mo 0 f_mo_38 0 rfl rfl (by decide) rfl rfl (by decide +kernel) rfl rfl (Nat.le_of_ble_eq_true rfl) rfl ?_
  refine jj_iconst (v := 1) X d_mo_bin_5 6 rfl (by decide) ?_
  refine jj_istore (lv' := [(0, .ref (q 0)), (1, .int a), (2, .int b), (3, .int i), (4, .int 1)]) X d_mo_bin_6 8 rfl (by decide) rfl rfl ?_
  refine jj_loop (fun (j : Nat) => 1 ≤ j ∧ j ≤ nS + 1 ∧ x_binM A (pBin A a b) nS i (nS + 1 - j) j = x_binM A (pBin A a b) nS i nS 1) (fun (j : Nat) => nS + 1 - j) (fun (j : Nat) => [(0, .ref (q 0)), (1, .int a), (2, .int b), (3, .int i), (4, .int (nI j))]) (fun (j : Nat) => []) (fun (j : Nat) => mw cI cZ q ((ua A 0 (uz (A 0) 7 0)))) (1) (⟨Nat.le_refl _, by simp, rfl⟩) rfl rfl rfl ?_
  rintro j hI ih8
  try dsimp only at hI ih8 ⊢
  obtain ⟨hj1, hj, hf⟩ := hI
  have hrg : rgM (ua A 0 (uz (A 0) 7 0)) := hrg
  refine jj_iload X d_mo_bin_8 10 rfl 4 rfl ?_
  refine jj_aload_n X d_mo_bin_10 11 rfl 0 rfl ?_
  refine jj_get (v := .int (nI nS)) X d_mo_bin_11 14 rfl i_mo 12 f_mo_51 0 rfl rfl (by decide) rfl (by rw [← hnS]; rfl) ?_
  refine jj_icmp_gt X d_mo_bin_14 100 17 (by decide) rfl (fun c14 => ?_) (fun c14 => ?_)
  · have hjn : j = nS + 1 := by have := nI_ltD c14 (by omega) (by omega); omega
    subst hjn
    refine jj_iconst (v := 0) X d_mo_bin_100 101 rfl (by decide) ?_
    exact jj_iret X hr hlk d_mo_bin_101 (⟨by rw [← hf, Nat.sub_self]; simp [x_binM], rfl⟩)
  · have hjn : j ≤ nS := nI_nltD c14 (by omega) (by omega)
    refine jj_iload_n X d_mo_bin_17 18 rfl 3 rfl ?_
    refine jj_if_lt X d_mo_bin_18 100 21 (by decide) rfl (fun c18 => ?_) (fun c18 => ?_)
    · refine jj_iconst (v := 0) X d_mo_bin_100 101 rfl (by decide) ?_
      exact jj_iret X hr hlk d_mo_bin_101 (⟨by rw [if_pos c18], rfl⟩)
    · refine jj_aload_n X d_mo_bin_21 22 rfl 0 rfl ?_
      refine jj_iload X d_mo_bin_22 24 rfl 4 rfl ?_
      refine jj_iload_n X d_mo_bin_24 25 rfl 1 rfl ?_
      refine jj_iload_n X d_mo_bin_25 26 rfl 2 rfl ?_
      refine jj_callV0 (st := []) X d_mo_bin_26 29 rfl (c_mo_isIn l D cI cZ q ((ua A 0 (uz (A 0) 7 0))) j a b hrg (by omega)) g_mo_82 ⟨rfl, w_mo_isIn⟩ ⟨(Nat.le_of_ble_eq_true rfl), (Nat.le_of_ble_eq_true rfl)⟩ rfl 0 rfl rfl rfl (Nat.le_of_ble_eq_true rfl) ⟨rfl, rfl⟩ ⟨Nat.zero_le _, Nat.zero_le _⟩ (fun r u hu => ?_)
      obtain ⟨rfl, rfl⟩ := hu
      refine jj_if_eq X d_mo_bin_29 94 32 (by decide) rfl (fun c29 => ?_) (fun c29 => ?_)
      · have c29 := b2_f c29
        have c29 : pBin A a b j = false := c29
        refine jj_iinc (v := nI (j + 1)) (lv' := [(0, .ref (q 0)), (1, .int a), (2, .int b), (3, .int i), (4, .int (nI (j + 1)))]) X d_mo_bin_94 97 rfl 4 rfl (ar_inc _) (by decide) rfl rfl ?_
        refine jj_goto X d_mo_bin_97 8 (by decide) ?_
        exact ih8 (j + 1) (⟨by omega, by omega, by rw [← hf, x_binM_s hjn]; simp [c29]⟩) (by omega)
      · have c29 := b2_t c29
        have c29 : pBin A a b j = true := c29
        refine jj_iconst (v := 0) X d_mo_bin_32 33 rfl (by decide) ?_
        refine jj_istore (lv' := [(0, .ref (q 0)), (1, .int a), (2, .int b), (3, .int i), (4, .int (nI j)), (5, .int 0)]) X d_mo_bin_33 35 rfl (by decide) rfl rfl ?_
        refine jj_iconst (v := 1) X d_mo_bin_35 36 rfl (by decide) ?_
        refine jj_istore (lv' := [(0, .ref (q 0)), (1, .int a), (2, .int b), (3, .int i), (4, .int (nI j)), (5, .int 0), (6, .int 1)]) X d_mo_bin_36 38 rfl (by decide) rfl rfl ?_
        refine jj_loop (fun ((t, c1) : Nat × Nat) => 1 ≤ t ∧ t ≤ nS + 1 ∧ x_cnt A (pBin A a b) j (nS + 1 - t) t c1 = x_cnt A (pBin A a b) j nS 1 0) (fun ((t, c1) : Nat × Nat) => nS + 1 - t) (fun ((t, c1) : Nat × Nat) => [(0, .ref (q 0)), (1, .int a), (2, .int b), (3, .int i), (4, .int (nI j)), (5, .int (nI c1)), (6, .int (nI t))]) (fun ((t, c1) : Nat × Nat) => []) (fun ((t, c1) : Nat × Nat) => mw cI cZ q ((ua A 0 (uz (A 0) 7 0)))) ((1, 0)) (⟨Nat.le_refl _, by simp, rfl⟩) rfl rfl rfl ?_
        rintro ⟨t, c1⟩ hI ih38
        try dsimp only at hI ih38 ⊢
        obtain ⟨ht1, ht0, hg⟩ := hI
        refine jj_iload X d_mo_bin_38 40 rfl 6 rfl ?_
        refine jj_aload_n X d_mo_bin_40 41 rfl 0 rfl ?_
        refine jj_get (v := .int (nI nS)) X d_mo_bin_41 44 rfl i_mo 12 f_mo_51 0 rfl rfl (by decide) rfl (by rw [← hnS]; rfl) ?_
        refine jj_icmp_gt X d_mo_bin_44 85 47 (by decide) rfl (fun c44 => ?_) (fun c44 => ?_)
        · have htn : t = nS + 1 := by have := nI_ltD c44 (by omega) (by omega); omega
          have ht : x_cnt A (pBin A a b) j (nS + 1 - t) t c1 = c1 := by rw [htn, Nat.sub_self]; rfl
          refine jj_iload X d_mo_bin_85 87 rfl 5 rfl ?_
          refine jj_iload_n X d_mo_bin_87 88 rfl 3 rfl ?_
          refine jj_icmp_ne X d_mo_bin_88 94 91 (by decide) rfl (fun c88 => ?_) (fun c88 => ?_)
          · refine jj_iinc (v := nI (j + 1)) (lv' := [(0, .ref (q 0)), (1, .int a), (2, .int b), (3, .int i), (4, .int (nI (j + 1))), (5, .int (nI c1)), (6, .int (nI t))]) X d_mo_bin_94 97 rfl 4 rfl (ar_inc _) (by decide) rfl rfl ?_
            refine jj_goto X d_mo_bin_97 8 (by decide) ?_
            refine jj_lvs (lv' := [(0, .ref (q 0)), (1, .int a), (2, .int b), (3, .int i), (4, .int (nI (j + 1)))]) (by simp) ?_
            exact ih8 (j + 1) (⟨by omega, by omega, by rw [← hf, x_binM_s hjn]; simp [c29, ← hg, ht, c88]⟩) (by omega)
          · refine jj_iload X d_mo_bin_91 93 rfl 4 rfl ?_
            exact jj_iret X hr hlk d_mo_bin_93 (⟨by rw [if_neg c18, ← hf, x_binM_s hjn]; simp [c29, ← hg, ht, c88], rfl⟩)
        · have htn : t ≤ nS := nI_nltD c44 (by omega) (by omega)
          refine jj_iload X d_mo_bin_47 49 rfl 5 rfl ?_
          refine jj_aload_n X d_mo_bin_49 50 rfl 0 rfl ?_
          refine jj_iload X d_mo_bin_50 52 rfl 6 rfl ?_
          refine jj_iload_n X d_mo_bin_52 53 rfl 1 rfl ?_
          refine jj_iload_n X d_mo_bin_53 54 rfl 2 rfl ?_
          refine jj_callV0 (st := [.int (nI c1)]) X d_mo_bin_54 57 rfl (c_mo_isIn l D cI cZ q ((ua A 0 (uz (A 0) 7 0))) t a b hrg (by omega)) g_mo_82 ⟨rfl, w_mo_isIn⟩ ⟨(Nat.le_of_ble_eq_true rfl), (Nat.le_of_ble_eq_true rfl)⟩ rfl 0 rfl rfl rfl (Nat.le_of_ble_eq_true rfl) ⟨rfl, rfl⟩ ⟨Nat.zero_le _, Nat.zero_le _⟩ (fun r u hu => ?_)
          obtain ⟨rfl, rfl⟩ := hu
          refine jj_if_eq X d_mo_bin_57 75 60 (by decide) rfl (fun c57 => ?_) (fun c57 => ?_)
          · have c57 := b2_f c57
            have c57 : pBin A a b t = false := c57
            refine jj_iconst (v := 0) X d_mo_bin_75 76 rfl (by decide) ?_
            refine jj_iadd X d_mo_bin_76 77 rfl ?_
            refine jj_topv (y := nI c1) (ad_0 _) ?_
            refine jj_istore (lv' := [(0, .ref (q 0)), (1, .int a), (2, .int b), (3, .int i), (4, .int (nI j)), (5, .int (nI c1)), (6, .int (nI t))]) X d_mo_bin_77 79 rfl (by decide) rfl rfl ?_
            refine jj_iinc (v := nI (t + 1)) (lv' := [(0, .ref (q 0)), (1, .int a), (2, .int b), (3, .int i), (4, .int (nI j)), (5, .int (nI c1)), (6, .int (nI (t + 1)))]) X d_mo_bin_79 82 rfl 6 rfl (ar_inc _) (by decide) rfl rfl ?_
            refine jj_goto X d_mo_bin_82 38 (by decide) ?_
            exact ih38 ((t + 1, c1)) (⟨by simp only; omega, by simp only; omega, by simp only; rw [← hg, x_cnt_s htn]; simp [c57]⟩) (by simp only; omega)
          · have c57 := b2_t c57
            have c57 : pBin A a b t = true := c57
            refine jj_aload_n X d_mo_bin_60 61 rfl 0 rfl ?_
            refine jj_iload X d_mo_bin_61 63 rfl 6 rfl ?_
            refine jj_iload X d_mo_bin_63 65 rfl 4 rfl ?_
            refine jj_callV0 (st := [.int (nI c1)]) X d_mo_bin_65 68 rfl (c_mo_isBefore l D cI cZ q ((ua A 0 (uz (A 0) 7 0))) t j hrg (by omega) (by omega)) g_mo_86 ⟨rfl, w_mo_isBefore⟩ ⟨(Nat.le_of_ble_eq_true rfl), (Nat.le_of_ble_eq_true rfl)⟩ rfl 0 rfl rfl rfl (Nat.le_of_ble_eq_true rfl) ⟨rfl, rfl⟩ ⟨Nat.zero_le _, Nat.zero_le _⟩ (fun r u hu => ?_)
            obtain ⟨rfl, rfl⟩ := hu
            refine jj_if_eq X d_mo_bin_68 75 71 (by decide) rfl (fun c68 => ?_) (fun c68 => ?_)
            · have c68 : bfI A (nI t) (nI j) = 0 := c68
              refine jj_iconst (v := 0) X d_mo_bin_75 76 rfl (by decide) ?_
              refine jj_iadd X d_mo_bin_76 77 rfl ?_
              refine jj_topv (y := nI c1) (ad_0 _) ?_
              refine jj_istore (lv' := [(0, .ref (q 0)), (1, .int a), (2, .int b), (3, .int i), (4, .int (nI j)), (5, .int (nI c1)), (6, .int (nI t))]) X d_mo_bin_77 79 rfl (by decide) rfl rfl ?_
              refine jj_iinc (v := nI (t + 1)) (lv' := [(0, .ref (q 0)), (1, .int a), (2, .int b), (3, .int i), (4, .int (nI j)), (5, .int (nI c1)), (6, .int (nI (t + 1)))]) X d_mo_bin_79 82 rfl 6 rfl (ar_inc _) (by decide) rfl rfl ?_
              refine jj_goto X d_mo_bin_82 38 (by decide) ?_
              exact ih38 ((t + 1, c1)) (⟨by simp only; omega, by simp only; omega, by simp only; rw [← hg, x_cnt_s htn]; simp [c57, c68]⟩) (by simp only; omega)
            · have c68 : ¬ bfI A (nI t) (nI j) = 0 := c68
              refine jj_iconst (v := 1) X d_mo_bin_71 72 rfl (by decide) ?_
              refine jj_goto X d_mo_bin_72 76 (by decide) ?_
              refine jj_iadd X d_mo_bin_76 77 rfl ?_
              refine jj_topv (y := nI (c1 + 1)) (nI_1 _) ?_
              refine jj_istore (lv' := [(0, .ref (q 0)), (1, .int a), (2, .int b), (3, .int i), (4, .int (nI j)), (5, .int (nI (c1 + 1))), (6, .int (nI t))]) X d_mo_bin_77 79 rfl (by decide) rfl rfl ?_
              refine jj_iinc (v := nI (t + 1)) (lv' := [(0, .ref (q 0)), (1, .int a), (2, .int b), (3, .int i), (4, .int (nI j)), (5, .int (nI (c1 + 1))), (6, .int (nI (t + 1)))]) X d_mo_bin_79 82 rfl 6 rfl (ar_inc _) (by decide) rfl rfl ?_
              refine jj_goto X d_mo_bin_82 38 (by decide) ?_
              exact ih38 ((t + 1, c1 + 1)) (⟨by simp only; omega, by simp only; omega, by simp only; rw [← hg, x_cnt_s htn]; simp [c57, c68]⟩) (by simp only; omega)
