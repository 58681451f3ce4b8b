set_option maxRecDepth 100000 in
set_option maxHeartbeats 4000000 in
theorem c_mo_slip (l : Launch) (D : va_G) (cI cZ : ClassId) (q : Nat → Nat) (A : Rows) (nS : Nat) (x w : Int32) (hnS : A 0 4 = nI nS) (hlS : nS ≤ 150) (hrg : rgM A) : mt_I l D cls_ [(cI, .int), (cZ, .boolean)] nst_ y_mo_slip (Cond.code y_mo_slip b_mo_slip 3 (some .int) :: gt_) (rmd 1) [.ref (q 0), .int x, .int w] (mw cI cZ q A) (fun r u => r = o_slip A nS x w ∧ u = mw cI cZ q (T0 A)) := by
  refine mt_I_of (by decide) (Nat.le_of_ble_eq_true rfl) ?_
  intro p e s m below meth c AA X hr hlk
  refine jj_lve (lv' := [(0, .ref (q 0)), (1, .int x), (2, .int w)]) rfl ?_
  refine jj_aload_n X d_mo_slip_0 1 rfl 0 rfl ?_
  refine jj_iconst (v := 0) X d_mo_slip_1 2 rfl (by decide) ?_
  refine jj_put (ty := .int) (ws' := mw cI cZ q ((ua A 0 (uz (A 0) 7 0)))) X d_mo_slip_2 5 rfl i_mo t_mo t_mo_ok n_mo 0 f_mo_38 0 rfl rfl (by decide) rfl rfl (by decide +kernel) rfl rfl (Nat.le_of_ble_eq_true rfl) rfl ?_
  refine jj_aload_n X d_mo_slip_5 6 rfl 0 rfl ?_
  refine jj_iload_n X d_mo_slip_6 7 rfl 1 rfl ?_
  refine jj_callV0 (st := []) X d_mo_slip_7 10 rfl (c_mo_isSlip l D cI cZ q ((ua A 0 (uz (A 0) 7 0))) nS x hnS hlS) g_mo_79 ⟨rfl, w_mo_isSlip⟩ ⟨(Nat.le_of_ble_eq_true rfl), (Nat.le_of_ble_eq_true rfl)⟩ rfl 0 rfl rfl rfl (Nat.le_of_ble_eq_true rfl) ⟨rfl, rfl⟩ ⟨Nat.zero_le _, Nat.zero_le _⟩ (fun r u hu => ?_)
  obtain ⟨rfl, rfl⟩ := hu
  refine jj_if_eq X d_mo_slip_10 23 13 (by decide) rfl (fun c10 => ?_) (fun c10 => ?_)
  · have c10 := b2_f c10
    refine jj_iconst (v := -1) X d_mo_slip_23 24 rfl (by decide) ?_
    exact jj_iret X hr hlk d_mo_slip_24 (⟨by simp [o_slip, *], rfl⟩)
  · have c10 := b2_t c10
    obtain ⟨k, hk1, hk, rfl⟩ := h1_k c10 (by omega)
    have h40 := vp_lt (hrg.2.1 k)
    refine jj_iload_n X d_mo_slip_13 14 rfl 2 rfl ?_
    refine jj_if_lt X d_mo_slip_14 23 17 (by decide) rfl (fun c14 => ?_) (fun c14 => ?_)
    · refine jj_iconst (v := -1) X d_mo_slip_23 24 rfl (by decide) ?_
      exact jj_iret X hr hlk d_mo_slip_24 (⟨(o_slip_out (Or.inl c14)).symm, rfl⟩)
    · refine jj_iload_n X d_mo_slip_17 18 rfl 2 rfl ?_
      refine jj_bipush (v := 6) X d_mo_slip_18 20 rfl (by decide) ?_
      refine jj_icmp_le X d_mo_slip_20 25 23 (by decide) rfl (fun c20 => ?_) (fun c20 => ?_)
      · obtain ⟨j, hj, rfl⟩ := i3_lt 6 (by omega) c14 c20
        refine jj_iload_n X d_mo_slip_25 26 rfl 2 rfl ?_
        refine jj_iconst (v := 5) X d_mo_slip_26 27 rfl (by decide) ?_
        refine jj_icmp_ge X d_mo_slip_27 44 30 (by decide) rfl (fun c27 => ?_) (fun c27 => ?_)
        · have hj5 : 5 ≤ j := nI_leD (a := 5) c27 (by omega) (by omega)
          refine jj_iload_n X d_mo_slip_44 45 rfl 2 rfl ?_
          refine jj_iconst (v := 5) X d_mo_slip_45 46 rfl (by decide) ?_
          refine jj_icmp_ne X d_mo_slip_46 85 49 (by decide) rfl (fun c46 => ?_) (fun c46 => ?_)
          · have hj6 : j = 6 := by have := nI_neD (b := 5) c46; omega
            refine jj_aload_n X d_mo_slip_85 86 rfl 0 rfl ?_
            refine jj_get (v := .ref (q 8)) X d_mo_slip_86 89 rfl i_mo 13 f_mo_32 0 rfl rfl (by decide) rfl rfl ?_
            refine jj_bipush (v := 8) X d_mo_slip_89 91 rfl (by decide) ?_
            refine jj_iload_n X d_mo_slip_91 92 rfl 1 rfl ?_
            refine jj_imul X d_mo_slip_92 93 rfl ?_
            refine jj_topv (y := nI (8 * k)) (pk_mul 8 _) ?_
            refine jj_iconst (v := 5) X d_mo_slip_93 94 rfl (by decide) ?_
            refine jj_iadd X d_mo_slip_94 95 rfl ?_
            refine jj_topv (y := nI (8 * k + 5)) (nI_add _ 5) ?_
            refine jj_iald (v := A 20 k) X d_mo_slip_95 96 rfl 8 0 rfl rfl (vp_in_nI (by omega) (by omega)) ((ar_cl (by omega)).trans (mxr8_5 _)) ?_
            exact jj_iret X hr hlk d_mo_slip_96 (⟨by subst hj6; rw [o_slip_j (by omega) c10 _ (by omega)]; rfl, rfl⟩)
          · have hj6 : j = 5 := nI_eqD c46 (by omega) (by omega)
            refine jj_aload_n X d_mo_slip_49 50 rfl 0 rfl ?_
            refine jj_get (v := .ref (q 8)) X d_mo_slip_50 53 rfl i_mo 13 f_mo_32 0 rfl rfl (by decide) rfl rfl ?_
            refine jj_bipush (v := 8) X d_mo_slip_53 55 rfl (by decide) ?_
            refine jj_iload_n X d_mo_slip_55 56 rfl 1 rfl ?_
            refine jj_imul X d_mo_slip_56 57 rfl ?_
            refine jj_topv (y := nI (8 * k)) (pk_mul 8 _) ?_
            refine jj_iconst (v := 4) X d_mo_slip_57 58 rfl (by decide) ?_
            refine jj_iadd X d_mo_slip_58 59 rfl ?_
            refine jj_topv (y := nI (8 * k + 4)) (nI_add _ 4) ?_
            refine jj_iald (v := A 19 k) X d_mo_slip_59 60 rfl 8 0 rfl rfl (vp_in_nI (by omega) (by omega)) ((ar_cl (by omega)).trans (mxr8_4 _)) ?_
            refine jj_aload_n X d_mo_slip_60 61 rfl 0 rfl ?_
            refine jj_get (v := .ref (q 2)) X d_mo_slip_61 64 rfl i_mo 4 f_mo_13 0 rfl rfl (by decide) rfl rfl ?_
            refine jj_bipush (v := 6) X d_mo_slip_64 66 rfl (by decide) ?_
            refine jj_aload_n X d_mo_slip_66 67 rfl 0 rfl ?_
            refine jj_get (v := .ref (q 8)) X d_mo_slip_67 70 rfl i_mo 13 f_mo_32 0 rfl rfl (by decide) rfl rfl ?_
            refine jj_bipush (v := 8) X d_mo_slip_70 72 rfl (by decide) ?_
            refine jj_iload_n X d_mo_slip_72 73 rfl 1 rfl ?_
            refine jj_imul X d_mo_slip_73 74 rfl ?_
            refine jj_topv (y := nI (8 * k)) (pk_mul 8 _) ?_
            refine jj_iconst (v := 1) X d_mo_slip_74 75 rfl (by decide) ?_
            refine jj_iadd X d_mo_slip_75 76 rfl ?_
            refine jj_topv (y := nI (8 * k + 1)) (nI_1 _) ?_
            refine jj_iald (v := A 16 k) X d_mo_slip_76 77 rfl 8 0 rfl rfl (vp_in_nI (by omega) (by omega)) ((ar_cl (by omega)).trans (mxr8_1 _)) ?_
            refine jj_topv (y := nI (A 16 k).toNatClampNeg) (vp_nI (hrg.2.1 _)) ?_
            refine jj_imul X d_mo_slip_77 78 rfl ?_
            refine jj_topv (y := nI (6 * (A 16 k).toNatClampNeg)) (pk_mul 6 _) ?_
            refine jj_iconst (v := 3) X d_mo_slip_78 79 rfl (by decide) ?_
            refine jj_iadd X d_mo_slip_79 80 rfl ?_
            refine jj_topv (y := nI (6 * (A 16 k).toNatClampNeg + 3)) (nI_add _ 3) ?_
            refine jj_iald (v := A 5 (A 16 k).toNatClampNeg) X d_mo_slip_80 81 rfl 2 0 rfl rfl (vp_in_nI (by omega) (by omega)) ((ar_cl (by omega)).trans (mxr6_3 _)) ?_
            refine jj_iadd X d_mo_slip_81 82 rfl ?_
            refine jj_goto X d_mo_slip_82 96 (by decide) ?_
            exact jj_iret X hr hlk d_mo_slip_96 (⟨by subst hj6; rw [o_slip_j (by omega) c10 _ (by omega)]; simp only [o_sj, duC, nI_clamp (show k < 2 ^ 31 by omega)], rfl⟩)
        · have hj5 : j < 5 := nI_nleD (a := 5) c27 (by omega) (by omega)
          refine jj_aload_n X d_mo_slip_30 31 rfl 0 rfl ?_
          refine jj_get (v := .ref (q 8)) X d_mo_slip_31 34 rfl i_mo 13 f_mo_32 0 rfl rfl (by decide) rfl rfl ?_
          refine jj_bipush (v := 8) X d_mo_slip_34 36 rfl (by decide) ?_
          refine jj_iload_n X d_mo_slip_36 37 rfl 1 rfl ?_
          refine jj_imul X d_mo_slip_37 38 rfl ?_
          refine jj_topv (y := nI (8 * k)) (pk_mul 8 _) ?_
          refine jj_iload_n X d_mo_slip_38 39 rfl 2 rfl ?_
          refine jj_iadd X d_mo_slip_39 40 rfl ?_
          refine jj_topv (y := nI (8 * k + j)) (nI_add _ _) ?_
          refine jj_iald (v := c8 A k j) X d_mo_slip_40 41 rfl 8 0 rfl rfl (vp_in_nI (by omega) (by omega)) ((ar_cl (by omega)).trans (by rcases (show j = 0 ∨ j = 1 ∨ j = 2 ∨ j = 3 ∨ j = 4 by omega) with rfl | rfl | rfl | rfl | rfl; exact mxr8_0 k; exact mxr8_1 k; exact mxr8_2 k; exact mxr8_3 k; exact mxr8_4 k)) ?_
          refine jj_goto X d_mo_slip_41 96 (by decide) ?_
          exact jj_iret X hr hlk d_mo_slip_96 (⟨by rw [o_slip_j (by omega) c10 j (by omega)]; rcases (show j = 0 ∨ j = 1 ∨ j = 2 ∨ j = 3 ∨ j = 4 by omega) with rfl | rfl | rfl | rfl | rfl <;> rfl, rfl⟩)
      · refine jj_iconst (v := -1) X d_mo_slip_23 24 rfl (by decide) ?_
        exact jj_iret X hr hlk d_mo_slip_24 (⟨(o_slip_out (Or.inr c20)).symm, rfl⟩)
set_option maxRecDepth 100000 in
set_option maxHeartbeats 4000000 in
theorem c_mo_where (l : Launch) (D : va_G) (cI cZ : ClassId) (q : Nat → Nat) (A : Rows) (nC : Nat) (x w : Int32) (hnC : A 0 3 = nI nC) (hlC : nC ≤ 60) : mt_I l D cls_ [(cI, .int), (cZ, .boolean)] nst_ y_mo_where (Cond.code y_mo_where b_mo_where 3 (some .int) :: gt_) (rmd 1) [.ref (q 0), .int x, .int w] (mw cI cZ q A) (fun r u => r = o_whM A nC x w ∧ u = mw cI cZ q (T0 A)) := by
  refine mt_I_of (by decide) (Nat.le_of_ble_eq_true rfl) ?_
  intro p e s m below meth c AA X hr hlk
  refine jj_lve (lv' := [(0, .ref (q 0)), (1, .int x), (2, .int w)]) rfl ?_
  refine jj_aload_n X d_mo_where_0 1 rfl 0 rfl ?_
  refine jj_iconst (v := 0) X d_mo_where_1 2 rfl (by decide) ?_
  refine jj_put (ty := .int) (ws' := mw cI cZ q ((ua A 0 (uz (A 0) 7 0)))) X d_mo_where_2 5 rfl i_mo t_mo t_mo_ok n_mo 0 f_mo_38 0 rfl rfl (by decide) rfl rfl (by decide +kernel) rfl rfl (Nat.le_of_ble_eq_true rfl) rfl ?_
  refine jj_aload_n X d_mo_where_5 6 rfl 0 rfl ?_
  refine jj_iload_n X d_mo_where_6 7 rfl 1 rfl ?_
  refine jj_callV0 (st := []) X d_mo_where_7 10 rfl (c_mo_isCopy l D cI cZ q ((ua A 0 (uz (A 0) 7 0))) nC x hnC hlC) g_mo_72 ⟨rfl, w_mo_isCopy⟩ ⟨(Nat.le_of_ble_eq_true rfl), (Nat.le_of_ble_eq_true rfl)⟩ rfl 0 rfl rfl rfl (Nat.le_of_ble_eq_true rfl) ⟨rfl, rfl⟩ ⟨Nat.zero_le _, Nat.zero_le _⟩ (fun r u hu => ?_)
  obtain ⟨rfl, rfl⟩ := hu
  refine jj_if_eq X d_mo_where_10 22 13 (by decide) rfl (fun c10 => ?_) (fun c10 => ?_)
  · have c10 := b2_f c10
    refine jj_iconst (v := -1) X d_mo_where_22 23 rfl (by decide) ?_
    refine jj_goto X d_mo_where_23 36 (by decide) ?_
    exact jj_iret X hr hlk d_mo_where_36 (⟨by simp [o_whM, *], rfl⟩)
  · have c10 := b2_t c10
    obtain ⟨k, hk1, hk, rfl⟩ := h1_k c10 (by omega)
    refine jj_iload_n X d_mo_where_13 14 rfl 2 rfl ?_
    refine jj_if_lt X d_mo_where_14 22 17 (by decide) rfl (fun c14 => ?_) (fun c14 => ?_)
    · refine jj_iconst (v := -1) X d_mo_where_22 23 rfl (by decide) ?_
      refine jj_goto X d_mo_where_23 36 (by decide) ?_
      exact jj_iret X hr hlk d_mo_where_36 (⟨(o_whM_out (Or.inl c14)).symm, rfl⟩)
    · refine jj_iload_n X d_mo_where_17 18 rfl 2 rfl ?_
      refine jj_iconst (v := 2) X d_mo_where_18 19 rfl (by decide) ?_
      refine jj_icmp_le X d_mo_where_19 26 22 (by decide) rfl (fun c19 => ?_) (fun c19 => ?_)
      · obtain ⟨j, hj, rfl⟩ := i3_lt 2 (by omega) c14 c19
        refine jj_aload_n X d_mo_where_26 27 rfl 0 rfl ?_
        refine jj_get (v := .ref (q 5)) X d_mo_where_27 30 rfl i_mo 9 f_mo_23 0 rfl rfl (by decide) rfl rfl ?_
        refine jj_iconst (v := 3) X d_mo_where_30 31 rfl (by decide) ?_
        refine jj_iload_n X d_mo_where_31 32 rfl 1 rfl ?_
        refine jj_imul X d_mo_where_32 33 rfl ?_
        refine jj_topv (y := nI (3 * k)) (pk_mul 3 _) ?_
        refine jj_iload_n X d_mo_where_33 34 rfl 2 rfl ?_
        refine jj_iadd X d_mo_where_34 35 rfl ?_
        refine jj_topv (y := nI (3 * k + j)) (nI_add _ _) ?_
        refine jj_iald (v := mx3 (A 11) (A 10) (A 12) (3 * k + j)) X d_mo_where_35 36 rfl 5 0 rfl rfl (vp_in_nI (by omega) (by omega)) (ar_cl (by omega)) ?_
        exact jj_iret X hr hlk d_mo_where_36 (⟨(o_whM_j (by omega) c10 j hj).symm, rfl⟩)
      · refine jj_iconst (v := -1) X d_mo_where_22 23 rfl (by decide) ?_
        refine jj_goto X d_mo_where_23 36 (by decide) ?_
        exact jj_iret X hr hlk d_mo_where_36 (⟨(o_whM_out (Or.inr c19)).symm, rfl⟩)
set_option maxRecDepth 100000 in
set_option maxHeartbeats 4000000 in
theorem c_mo_told (l : Launch) (D : va_G) (cI cZ : ClassId) (q : Nat → Nat) (A : Rows) (nT : Nat) (x w : Int32) (hnT : A 0 6 = nI nT) (hlT : nT ≤ 100) : mt_I l D cls_ [(cI, .int), (cZ, .boolean)] nst_ y_mo_told (Cond.code y_mo_told b_mo_told 3 (some .int) :: gt_) (rmd 0) [.ref (q 0), .int x, .int w] (mw cI cZ q A) (fun r u => r = o_told A nT x w ∧ u = mw cI cZ q (T0 A)) := by
  refine mt_I_of (by decide) (Nat.le_of_ble_eq_true rfl) ?_
  intro p e s m below meth c AA X hr hlk
  refine jj_lve (lv' := [(0, .ref (q 0)), (1, .int x), (2, .int w)]) rfl ?_
  refine jj_aload_n X d_mo_told_0 1 rfl 0 rfl ?_
  refine jj_iconst (v := 0) X d_mo_told_1 2 rfl (by decide) ?_
  refine jj_put (ty := .int) (ws' := mw cI cZ q ((ua A 0 (uz (A 0) 7 0)))) X d_mo_told_2 5 rfl i_mo t_mo t_mo_ok n_mo 0 f_mo_38 0 rfl rfl (by decide) rfl rfl (by decide +kernel) rfl rfl (Nat.le_of_ble_eq_true rfl) rfl ?_
  refine jj_iload_n X d_mo_told_5 6 rfl 1 rfl ?_
  refine jj_if_lt X d_mo_told_6 26 9 (by decide) rfl (fun c6 => ?_) (fun c6 => ?_)
  · refine jj_iconst (v := -1) X d_mo_told_26 27 rfl (by decide) ?_
    refine jj_goto X d_mo_told_27 40 (by decide) ?_
    exact jj_iret X hr hlk d_mo_told_40 (⟨by simp [o_told, hN, *], rfl⟩)
  · refine jj_iload_n X d_mo_told_9 10 rfl 1 rfl ?_
    refine jj_aload_n X d_mo_told_10 11 rfl 0 rfl ?_
    refine jj_get (v := .int (nI nT)) X d_mo_told_11 14 rfl i_mo 16 f_mo_89 0 rfl rfl (by decide) rfl (by rw [← hnT]; rfl) ?_
    refine jj_icmp_ge X d_mo_told_14 26 17 (by decide) rfl (fun c14 => ?_) (fun c14 => ?_)
    · refine jj_iconst (v := -1) X d_mo_told_26 27 rfl (by decide) ?_
      refine jj_goto X d_mo_told_27 40 (by decide) ?_
      exact jj_iret X hr hlk d_mo_told_40 (⟨by simp [o_told, hN, *], rfl⟩)
    · obtain ⟨k, hk0, rfl⟩ := nI_of c6
      have hk : k < nT := nI_nleD c14 (by omega) hk0
      have hhN : hN (nI nT) (nI k) = true := by simp [hN, *]
      refine jj_iload_n X d_mo_told_17 18 rfl 2 rfl ?_
      refine jj_if_lt X d_mo_told_18 26 21 (by decide) rfl (fun c18 => ?_) (fun c18 => ?_)
      · refine jj_iconst (v := -1) X d_mo_told_26 27 rfl (by decide) ?_
        refine jj_goto X d_mo_told_27 40 (by decide) ?_
        exact jj_iret X hr hlk d_mo_told_40 (⟨(o_told_out (Or.inl c18)).symm, rfl⟩)
      · refine jj_iload_n X d_mo_told_21 22 rfl 2 rfl ?_
        refine jj_iconst (v := 1) X d_mo_told_22 23 rfl (by decide) ?_
        refine jj_icmp_le X d_mo_told_23 30 26 (by decide) rfl (fun c23 => ?_) (fun c23 => ?_)
        · obtain ⟨j, hj, rfl⟩ := i3_lt 1 (by omega) c18 c23
          refine jj_aload_n X d_mo_told_30 31 rfl 0 rfl ?_
          refine jj_get (v := .ref (q 9)) X d_mo_told_31 34 rfl i_mo 15 f_mo_35 0 rfl rfl (by decide) rfl rfl ?_
          refine jj_iconst (v := 2) X d_mo_told_34 35 rfl (by decide) ?_
          refine jj_iload_n X d_mo_told_35 36 rfl 1 rfl ?_
          refine jj_imul X d_mo_told_36 37 rfl ?_
          refine jj_topv (y := nI (2 * k)) (pk_mul 2 _) ?_
          refine jj_iload_n X d_mo_told_37 38 rfl 2 rfl ?_
          refine jj_iadd X d_mo_told_38 39 rfl ?_
          refine jj_topv (y := nI (2 * k + j)) (nI_add _ _) ?_
          refine jj_iald (v := mx2 (A 23) (A 24) (2 * k + j)) X d_mo_told_39 40 rfl 9 0 rfl rfl (vp_in_nI (by omega) (by omega)) (ar_cl (by omega)) ?_
          exact jj_iret X hr hlk d_mo_told_40 (⟨(o_told_j (by omega) hhN j hj).symm, rfl⟩)
        · refine jj_iconst (v := -1) X d_mo_told_26 27 rfl (by decide) ?_
          refine jj_goto X d_mo_told_27 40 (by decide) ?_
          exact jj_iret X hr hlk d_mo_told_40 (⟨(o_told_out (Or.inr c23)).symm, rfl⟩)
set_option maxRecDepth 100000 in
set_option maxHeartbeats 4000000 in
theorem c_mo_back (l : Launch) (D : va_G) (cI cZ : ClassId) (q : Nat → Nat) (A : Rows) (nS : Nat) (x : Int32) (hnS : A 0 4 = nI nS) (hlS : nS ≤ 150) (hrg : rgM A) : mt_I l D cls_ [(cI, .int), (cZ, .boolean)] nst_ y_mo_back (Cond.code y_mo_back b_mo_back 3 (some .int) :: gt_) (rmd 1) [.ref (q 0), .int x] (mw cI cZ q A) (fun r u => r = (s_backM A nS x).1 ∧ u = mw cI cZ q (s_backM A nS x).2) := by
  refine mt_I_of (by decide) (Nat.le_of_ble_eq_true rfl) ?_
  intro p e s m below meth c AA X hr hlk
  refine jj_lve (lv' := [(0, .ref (q 0)), (1, .int x)]) rfl ?_
  refine jj_aload_n X d_mo_back_0 1 rfl 0 rfl ?_
  refine jj_iconst (v := 0) X d_mo_back_1 2 rfl (by decide) ?_
  refine jj_put (ty := .int) (ws' := mw cI cZ q ((ua A 0 (uz (A 0) 7 0)))) X d_mo_back_2 5 rfl i_mo t_mo t_mo_ok n_mo 0 f_mo_38 0 rfl rfl (by decide) rfl rfl (by decide +kernel) rfl rfl (Nat.le_of_ble_eq_true rfl) rfl ?_
  refine jj_aload_n X d_mo_back_5 6 rfl 0 rfl ?_
  refine jj_iload_n X d_mo_back_6 7 rfl 1 rfl ?_
  refine jj_callV0 (st := []) X d_mo_back_7 10 rfl (c_mo_isSlip l D cI cZ q ((ua A 0 (uz (A 0) 7 0))) nS x hnS hlS) g_mo_79 ⟨rfl, w_mo_isSlip⟩ ⟨(Nat.le_of_ble_eq_true rfl), (Nat.le_of_ble_eq_true rfl)⟩ rfl 0 rfl rfl rfl (Nat.le_of_ble_eq_true rfl) ⟨rfl, rfl⟩ ⟨Nat.zero_le _, Nat.zero_le _⟩ (fun r u hu => ?_)
  obtain ⟨rfl, rfl⟩ := hu
  refine jj_if_eq X d_mo_back_10 27 13 (by decide) rfl (fun c10 => ?_) (fun c10 => ?_)
  · have c10 := b2_f c10
    refine jj_iconst (v := 0) X d_mo_back_27 28 rfl (by decide) ?_
    exact jj_iret X hr hlk d_mo_back_28 (⟨by simp [s_backM, *], by simp [s_backM, *]; rfl⟩)
  · have c10 := b2_t c10
    obtain ⟨k, hk1, hk, rfl⟩ := h1_k c10 (by omega)
    have h61 := vp_lt (hrg.1 k)
    have h40 := vp_lt (hrg.2.1 k)
    refine jj_aload_n X d_mo_back_13 14 rfl 0 rfl ?_
    refine jj_get (v := .ref (q 8)) X d_mo_back_14 17 rfl i_mo 13 f_mo_32 0 rfl rfl (by decide) rfl rfl ?_
    refine jj_bipush (v := 8) X d_mo_back_17 19 rfl (by decide) ?_
    refine jj_iload_n X d_mo_back_19 20 rfl 1 rfl ?_
    refine jj_imul X d_mo_back_20 21 rfl ?_
    refine jj_topv (y := nI (8 * k)) (pk_mul 8 _) ?_
    refine jj_iconst (v := 2) X d_mo_back_21 22 rfl (by decide) ?_
    refine jj_iadd X d_mo_back_22 23 rfl ?_
    refine jj_topv (y := nI (8 * k + 2)) (nI_add _ 2) ?_
    refine jj_iald (v := A 17 k) X d_mo_back_23 24 rfl 8 0 rfl rfl (vp_in_nI (by omega) (by omega)) ((ar_cl (by omega)).trans (mxr8_2 _)) ?_
    refine jj_if_eq X d_mo_back_24 29 27 (by decide) rfl (fun c24 => ?_) (fun c24 => ?_)
    · refine jj_aload_n X d_mo_back_29 30 rfl 0 rfl ?_
      refine jj_get (v := .ref (q 8)) X d_mo_back_30 33 rfl i_mo 13 f_mo_32 0 rfl rfl (by decide) rfl rfl ?_
      refine jj_bipush (v := 8) X d_mo_back_33 35 rfl (by decide) ?_
      refine jj_iload_n X d_mo_back_35 36 rfl 1 rfl ?_
      refine jj_imul X d_mo_back_36 37 rfl ?_
      refine jj_topv (y := nI (8 * k)) (pk_mul 8 _) ?_
      refine jj_iconst (v := 2) X d_mo_back_37 38 rfl (by decide) ?_
      refine jj_iadd X d_mo_back_38 39 rfl ?_
      refine jj_topv (y := nI (8 * k + 2)) (nI_add _ 2) ?_
      refine jj_iconst (v := 5) X d_mo_back_39 40 rfl (by decide) ?_
      refine jj_iast (ws' := mw cI cZ q ((ua (ua A 0 (uz (A 0) 7 0)) 17 (upd (A 17) k 5)))) X d_mo_back_40 41 rfl 8 0 rfl rfl (vp_in_nI (by omega) (by omega)) (by rw [nI_clamp (by omega)]; exact congrArg (fun z => List.set (mw cI cZ q ((ua A 0 (uz (A 0) 7 0)))) 8 (q 8, .inl (cI, 1208, .inl z))) (mxu8_2 _ _)) ?_
      refine jj_aload_n X d_mo_back_41 42 rfl 0 rfl ?_
      refine jj_get (v := .ref (q 8)) X d_mo_back_42 45 rfl i_mo 13 f_mo_32 0 rfl rfl (by decide) rfl rfl ?_
      refine jj_bipush (v := 8) X d_mo_back_45 47 rfl (by decide) ?_
      refine jj_iload_n X d_mo_back_47 48 rfl 1 rfl ?_
      refine jj_imul X d_mo_back_48 49 rfl ?_
      refine jj_topv (y := nI (8 * k)) (pk_mul 8 _) ?_
      refine jj_iald (v := A 15 k) X d_mo_back_49 50 rfl 8 0 rfl rfl (vp_in_nI (by omega) (by omega)) ((ar_cl (by omega)).trans (mxr8_0 _)) ?_
      refine jj_topv (y := nI (A 15 k).toNatClampNeg) (vp_nI (hrg.1 _)) ?_
      refine jj_istore_n (lv' := [(0, .ref (q 0)), (1, .int (nI k)), (2, .int (nI (A 15 k).toNatClampNeg))]) X d_mo_back_50 51 rfl (by decide) rfl rfl ?_
      refine jj_aload_n X d_mo_back_51 52 rfl 0 rfl ?_
      refine jj_get (v := .ref (q 5)) X d_mo_back_52 55 rfl i_mo 9 f_mo_23 0 rfl rfl (by decide) rfl rfl ?_
      refine jj_iconst (v := 3) X d_mo_back_55 56 rfl (by decide) ?_
      refine jj_iload_n X d_mo_back_56 57 rfl 2 rfl ?_
      refine jj_imul X d_mo_back_57 58 rfl ?_
      refine jj_topv (y := nI (3 * (A 15 k).toNatClampNeg)) (pk_mul 3 _) ?_
      refine jj_aload_n X d_mo_back_58 59 rfl 0 rfl ?_
      refine jj_get (v := .ref (q 2)) X d_mo_back_59 62 rfl i_mo 4 f_mo_13 0 rfl rfl (by decide) rfl rfl ?_
      refine jj_bipush (v := 6) X d_mo_back_62 64 rfl (by decide) ?_
      refine jj_aload_n X d_mo_back_64 65 rfl 0 rfl ?_
      refine jj_get (v := .ref (q 8)) X d_mo_back_65 68 rfl i_mo 13 f_mo_32 0 rfl rfl (by decide) rfl rfl ?_
      refine jj_bipush (v := 8) X d_mo_back_68 70 rfl (by decide) ?_
      refine jj_iload_n X d_mo_back_70 71 rfl 1 rfl ?_
      refine jj_imul X d_mo_back_71 72 rfl ?_
      refine jj_topv (y := nI (8 * k)) (pk_mul 8 _) ?_
      refine jj_iconst (v := 1) X d_mo_back_72 73 rfl (by decide) ?_
      refine jj_iadd X d_mo_back_73 74 rfl ?_
      refine jj_topv (y := nI (8 * k + 1)) (nI_1 _) ?_
      refine jj_iald (v := A 16 k) X d_mo_back_74 75 rfl 8 0 rfl rfl (vp_in_nI (by omega) (by omega)) ((ar_cl (by omega)).trans (mxr8_1 _)) ?_
      refine jj_topv (y := nI (A 16 k).toNatClampNeg) (vp_nI (hrg.2.1 _)) ?_
      refine jj_imul X d_mo_back_75 76 rfl ?_
      refine jj_topv (y := nI (6 * (A 16 k).toNatClampNeg)) (pk_mul 6 _) ?_
      refine jj_iald (v := A 2 (A 16 k).toNatClampNeg) X d_mo_back_76 77 rfl 2 0 rfl rfl (vp_in_nI (by omega) (by omega)) ((ar_cl (by omega)).trans (mxr6_0 _)) ?_
      refine jj_iast (ws' := mw cI cZ q ((ua (ua (ua A 0 (uz (A 0) 7 0)) 11 (upd (A 11) ((A 15 k).toNatClampNeg) (A 2 (A 16 k).toNatClampNeg))) 17 (upd (A 17) k 5)))) X d_mo_back_77 78 rfl 5 0 rfl rfl (vp_in_nI (by omega) (by omega)) (by rw [nI_clamp (by omega)]; exact congrArg (fun z => List.set (mw cI cZ q ((ua (ua A 0 (uz (A 0) 7 0)) 17 (upd (A 17) k 5)))) 5 (q 5, .inl (cI, 183, .inl z))) (mxu3_0 _ _)) ?_
      refine jj_aload_n X d_mo_back_78 79 rfl 0 rfl ?_
      refine jj_get (v := .ref (q 5)) X d_mo_back_79 82 rfl i_mo 9 f_mo_23 0 rfl rfl (by decide) rfl rfl ?_
      refine jj_iconst (v := 3) X d_mo_back_82 83 rfl (by decide) ?_
      refine jj_iload_n X d_mo_back_83 84 rfl 2 rfl ?_
      refine jj_imul X d_mo_back_84 85 rfl ?_
      refine jj_topv (y := nI (3 * (A 15 k).toNatClampNeg)) (pk_mul 3 _) ?_
      refine jj_iconst (v := 2) X d_mo_back_85 86 rfl (by decide) ?_
      refine jj_iadd X d_mo_back_86 87 rfl ?_
      refine jj_topv (y := nI (3 * (A 15 k).toNatClampNeg + 2)) (nI_add _ 2) ?_
      refine jj_iconst (v := 0) X d_mo_back_87 88 rfl (by decide) ?_
      refine jj_iast (ws' := mw cI cZ q ((ua (ua (ua (ua A 0 (uz (A 0) 7 0)) 11 (upd (A 11) ((A 15 k).toNatClampNeg) (A 2 (A 16 k).toNatClampNeg))) 12 (upd (A 12) ((A 15 k).toNatClampNeg) 0)) 17 (upd (A 17) k 5)))) X d_mo_back_88 89 rfl 5 0 rfl rfl (vp_in_nI (by omega) (by omega)) (by rw [nI_clamp (by omega)]; exact congrArg (fun z => List.set (mw cI cZ q ((ua (ua (ua A 0 (uz (A 0) 7 0)) 11 (upd (A 11) ((A 15 k).toNatClampNeg) (A 2 (A 16 k).toNatClampNeg))) 17 (upd (A 17) k 5)))) 5 (q 5, .inl (cI, 183, .inl z))) (mxu3_2 _ _)) ?_
      refine jj_iconst (v := 1) X d_mo_back_89 90 rfl (by decide) ?_
      exact jj_iret X hr hlk d_mo_back_90 (⟨by simp [s_backM, nI_clamp (show k < 2 ^ 31 by omega), *], by simp [s_backM, nI_clamp (show k < 2 ^ 31 by omega), *]⟩)
    · refine jj_iconst (v := 0) X d_mo_back_27 28 rfl (by decide) ?_
      exact jj_iret X hr hlk d_mo_back_28 (⟨by simp [s_backM, nI_clamp (show k < 2 ^ 31 by omega), *], by simp [s_backM, nI_clamp (show k < 2 ^ 31 by omega), *]; rfl⟩)
set_option maxRecDepth 100000 in
set_option maxHeartbeats 4000000 in
theorem c_mo_arrive (l : Launch) (D : va_G) (cI cZ : ClassId) (q : Nat → Nat) (A : Rows) (nP : Nat) (nS : Nat) (x y d : Int32) (hnP : A 0 0 = nI nP) (hlP : nP ≤ 12) (hnS : A 0 4 = nI nS) (hlS : nS ≤ 150) (hrg : rgM A) : mt_I l D cls_ [(cI, .int), (cZ, .boolean)] nst_ y_mo_arrive (Cond.code y_mo_arrive b_mo_arrive 6 (some .int) :: gt_) (rmd 1) [.ref (q 0), .int x, .int y, .int d] (mw cI cZ q A) (fun r u => r = (s_arrM A nP nS x y d).1 ∧ u = mw cI cZ q (s_arrM A nP nS x y d).2) := by
  refine mt_I_of (by decide) (Nat.le_of_ble_eq_true rfl) ?_
  intro p e s m below meth c AA X hr hlk
  refine jj_lve (lv' := [(0, .ref (q 0)), (1, .int x), (2, .int y), (3, .int d)]) rfl ?_
  refine jj_aload_n X d_mo_arrive_0 1 rfl 0 rfl ?_
  refine jj_iconst (v := 0) X d_mo_arrive_1 2 rfl (by decide) ?_
  refine jj_put (ty := .int) (ws' := mw cI cZ q ((ua A 0 (uz (A 0) 7 0)))) X d_mo_arrive_2 5 rfl i_mo t_mo t_mo_ok n_mo 0 f_mo_38 0 rfl rfl (by decide) rfl rfl (by decide +kernel) rfl rfl (Nat.le_of_ble_eq_true rfl) rfl ?_
  refine jj_aload_n X d_mo_arrive_5 6 rfl 0 rfl ?_
  refine jj_iload_n X d_mo_arrive_6 7 rfl 1 rfl ?_
  refine jj_callV0 (st := []) X d_mo_arrive_7 10 rfl (c_mo_isSlip l D cI cZ q ((ua A 0 (uz (A 0) 7 0))) nS x hnS hlS) g_mo_79 ⟨rfl, w_mo_isSlip⟩ ⟨(Nat.le_of_ble_eq_true rfl), (Nat.le_of_ble_eq_true rfl)⟩ rfl 0 rfl rfl rfl (Nat.le_of_ble_eq_true rfl) ⟨rfl, rfl⟩ ⟨Nat.zero_le _, Nat.zero_le _⟩ (fun r u hu => ?_)
  obtain ⟨rfl, rfl⟩ := hu
  refine jj_if_eq X d_mo_arrive_10 73 13 (by decide) rfl (fun c10 => ?_) (fun c10 => ?_)
  · have c10 := b2_f c10
    refine jj_iconst (v := 0) X d_mo_arrive_73 74 rfl (by decide) ?_
    exact jj_iret X hr hlk d_mo_arrive_74 (⟨by simp [s_arrM, okA, *], by simp [s_arrM, okA, *]; rfl⟩)
  · have c10 := b2_t c10
    obtain ⟨k, hk1, hk, rfl⟩ := h1_k c10 (by omega)
    have h61 := vp_lt (hrg.1 k)
    have h40 := vp_lt (hrg.2.1 k)
    refine jj_aload_n X d_mo_arrive_13 14 rfl 0 rfl ?_
    refine jj_iload_n X d_mo_arrive_14 15 rfl 2 rfl ?_
    refine jj_callV0 (st := []) X d_mo_arrive_15 18 rfl (c_mo_isPlace l D cI cZ q ((ua A 0 (uz (A 0) 7 0))) nP y hnP hlP) g_mo_55 ⟨rfl, w_mo_isPlace⟩ ⟨(Nat.le_of_ble_eq_true rfl), (Nat.le_of_ble_eq_true rfl)⟩ rfl 0 rfl rfl rfl (Nat.le_of_ble_eq_true rfl) ⟨rfl, rfl⟩ ⟨Nat.zero_le _, Nat.zero_le _⟩ (fun r u hu => ?_)
    obtain ⟨rfl, rfl⟩ := hu
    refine jj_if_eq X d_mo_arrive_18 73 21 (by decide) rfl (fun c18 => ?_) (fun c18 => ?_)
    · have c18 := b2_f c18
      refine jj_iconst (v := 0) X d_mo_arrive_73 74 rfl (by decide) ?_
      exact jj_iret X hr hlk d_mo_arrive_74 (⟨by simp [s_arrM, okA, uwC, nI_clamp (show k < 2 ^ 31 by omega), *], by simp [s_arrM, okA, uwC, nI_clamp (show k < 2 ^ 31 by omega), *]; rfl⟩)
    · have c18 := b2_t c18
      refine jj_iload_n X d_mo_arrive_21 22 rfl 3 rfl ?_
      refine jj_callS0 (st := []) X d_mo_arrive_22 25 rfl (c_mo_isDay l D cI cZ q ((ua A 0 (uz (A 0) 7 0))) d) g_mo_65 ⟨rfl, w_mo_isDay⟩ ⟨(Nat.le_of_ble_eq_true rfl), (Nat.le_of_ble_eq_true rfl)⟩ rfl rfl (Nat.le_of_ble_eq_true rfl) ⟨rfl, rfl⟩ ⟨Nat.zero_le _, Nat.zero_le _⟩ (fun r u hu => ?_)
      obtain ⟨rfl, rfl⟩ := hu
      refine jj_if_eq X d_mo_arrive_25 73 28 (by decide) rfl (fun c25 => ?_) (fun c25 => ?_)
      · have c25 := b2_f c25
        refine jj_iconst (v := 0) X d_mo_arrive_73 74 rfl (by decide) ?_
        exact jj_iret X hr hlk d_mo_arrive_74 (⟨by simp [s_arrM, okA, uwC, nI_clamp (show k < 2 ^ 31 by omega), *], by simp [s_arrM, okA, uwC, nI_clamp (show k < 2 ^ 31 by omega), *]; rfl⟩)
      · have c25 := b2_t c25
        refine jj_aload_n X d_mo_arrive_28 29 rfl 0 rfl ?_
        refine jj_get (v := .ref (q 8)) X d_mo_arrive_29 32 rfl i_mo 13 f_mo_32 0 rfl rfl (by decide) rfl rfl ?_
        refine jj_bipush (v := 8) X d_mo_arrive_32 34 rfl (by decide) ?_
        refine jj_iload_n X d_mo_arrive_34 35 rfl 1 rfl ?_
        refine jj_imul X d_mo_arrive_35 36 rfl ?_
        refine jj_topv (y := nI (8 * k)) (pk_mul 8 _) ?_
        refine jj_iconst (v := 2) X d_mo_arrive_36 37 rfl (by decide) ?_
        refine jj_iadd X d_mo_arrive_37 38 rfl ?_
        refine jj_topv (y := nI (8 * k + 2)) (nI_add _ 2) ?_
        refine jj_iald (v := A 17 k) X d_mo_arrive_38 39 rfl 8 0 rfl rfl (vp_in_nI (by omega) (by omega)) ((ar_cl (by omega)).trans (mxr8_2 _)) ?_
        refine jj_iconst (v := 1) X d_mo_arrive_39 40 rfl (by decide) ?_
        refine jj_icmp_eq X d_mo_arrive_40 58 43 (by decide) rfl (fun c40 => ?_) (fun c40 => ?_)
        · refine jj_iload_n X d_mo_arrive_58 59 rfl 3 rfl ?_
          refine jj_aload_n X d_mo_arrive_59 60 rfl 0 rfl ?_
          refine jj_get (v := .ref (q 8)) X d_mo_arrive_60 63 rfl i_mo 13 f_mo_32 0 rfl rfl (by decide) rfl rfl ?_
          refine jj_bipush (v := 8) X d_mo_arrive_63 65 rfl (by decide) ?_
          refine jj_iload_n X d_mo_arrive_65 66 rfl 1 rfl ?_
          refine jj_imul X d_mo_arrive_66 67 rfl ?_
          refine jj_topv (y := nI (8 * k)) (pk_mul 8 _) ?_
          refine jj_iconst (v := 4) X d_mo_arrive_67 68 rfl (by decide) ?_
          refine jj_iadd X d_mo_arrive_68 69 rfl ?_
          refine jj_topv (y := nI (8 * k + 4)) (nI_add _ 4) ?_
          refine jj_iald (v := A 19 k) X d_mo_arrive_69 70 rfl 8 0 rfl rfl (vp_in_nI (by omega) (by omega)) ((ar_cl (by omega)).trans (mxr8_4 _)) ?_
          refine jj_icmp_ge X d_mo_arrive_70 75 73 (by decide) rfl (fun c70 => ?_) (fun c70 => ?_)
          · refine jj_iload_n X d_mo_arrive_75 76 rfl 2 rfl ?_
            refine jj_aload_n X d_mo_arrive_76 77 rfl 0 rfl ?_
            refine jj_get (v := .ref (q 2)) X d_mo_arrive_77 80 rfl i_mo 4 f_mo_13 0 rfl rfl (by decide) rfl rfl ?_
            refine jj_bipush (v := 6) X d_mo_arrive_80 82 rfl (by decide) ?_
            refine jj_aload_n X d_mo_arrive_82 83 rfl 0 rfl ?_
            refine jj_get (v := .ref (q 8)) X d_mo_arrive_83 86 rfl i_mo 13 f_mo_32 0 rfl rfl (by decide) rfl rfl ?_
            refine jj_bipush (v := 8) X d_mo_arrive_86 88 rfl (by decide) ?_
            refine jj_iload_n X d_mo_arrive_88 89 rfl 1 rfl ?_
            refine jj_imul X d_mo_arrive_89 90 rfl ?_
            refine jj_topv (y := nI (8 * k)) (pk_mul 8 _) ?_
            refine jj_iconst (v := 1) X d_mo_arrive_90 91 rfl (by decide) ?_
            refine jj_iadd X d_mo_arrive_91 92 rfl ?_
            refine jj_topv (y := nI (8 * k + 1)) (nI_1 _) ?_
            refine jj_iald (v := A 16 k) X d_mo_arrive_92 93 rfl 8 0 rfl rfl (vp_in_nI (by omega) (by omega)) ((ar_cl (by omega)).trans (mxr8_1 _)) ?_
            refine jj_topv (y := nI (A 16 k).toNatClampNeg) (vp_nI (hrg.2.1 _)) ?_
            refine jj_imul X d_mo_arrive_93 94 rfl ?_
            refine jj_topv (y := nI (6 * (A 16 k).toNatClampNeg)) (pk_mul 6 _) ?_
            refine jj_iconst (v := 1) X d_mo_arrive_94 95 rfl (by decide) ?_
            refine jj_iadd X d_mo_arrive_95 96 rfl ?_
            refine jj_topv (y := nI (6 * (A 16 k).toNatClampNeg + 1)) (nI_1 _) ?_
            refine jj_iald (v := A 3 (A 16 k).toNatClampNeg) X d_mo_arrive_96 97 rfl 2 0 rfl rfl (vp_in_nI (by omega) (by omega)) ((ar_cl (by omega)).trans (mxr6_1 _)) ?_
            refine jj_icmp_ne X d_mo_arrive_97 104 100 (by decide) rfl (fun c97 => ?_) (fun c97 => ?_)
            · have c97 := Ne.symm c97
              refine jj_iconst (v := 0) X d_mo_arrive_104 105 rfl (by decide) ?_
              refine jj_istore (lv' := [(0, .ref (q 0)), (1, .int (nI k)), (2, .int y), (3, .int d), (4, .int 0)]) X d_mo_arrive_105 107 rfl (by decide) rfl rfl ?_
              refine jj_aload_n X d_mo_arrive_107 108 rfl 0 rfl ?_
              refine jj_get (v := .ref (q 8)) X d_mo_arrive_108 111 rfl i_mo 13 f_mo_32 0 rfl rfl (by decide) rfl rfl ?_
              refine jj_bipush (v := 8) X d_mo_arrive_111 113 rfl (by decide) ?_
              refine jj_iload_n X d_mo_arrive_113 114 rfl 1 rfl ?_
              refine jj_imul X d_mo_arrive_114 115 rfl ?_
              refine jj_topv (y := nI (8 * k)) (pk_mul 8 _) ?_
              refine jj_iconst (v := 2) X d_mo_arrive_115 116 rfl (by decide) ?_
              refine jj_iadd X d_mo_arrive_116 117 rfl ?_
              refine jj_topv (y := nI (8 * k + 2)) (nI_add _ 2) ?_
              refine jj_iload X d_mo_arrive_117 119 rfl 4 rfl ?_
              refine jj_if_eq X d_mo_arrive_119 126 122 (by decide) rfl (fun c119 => ?_) (fun c119 => ?_)
              · refine jj_iconst (v := 4) X d_mo_arrive_126 127 rfl (by decide) ?_
                refine jj_iast (ws' := mw cI cZ q ((ua (ua A 0 (uz (A 0) 7 0)) 17 (upd (A 17) k 4)))) X d_mo_arrive_127 128 rfl 8 0 rfl rfl (vp_in_nI (by omega) (by omega)) (by rw [nI_clamp (by omega)]; exact congrArg (fun z => List.set (mw cI cZ q ((ua A 0 (uz (A 0) 7 0)))) 8 (q 8, .inl (cI, 1208, .inl z))) (mxu8_2 _ _)) ?_
                refine jj_aload_n X d_mo_arrive_128 129 rfl 0 rfl ?_
                refine jj_get (v := .ref (q 8)) X d_mo_arrive_129 132 rfl i_mo 13 f_mo_32 0 rfl rfl (by decide) rfl rfl ?_
                refine jj_bipush (v := 8) X d_mo_arrive_132 134 rfl (by decide) ?_
                refine jj_iload_n X d_mo_arrive_134 135 rfl 1 rfl ?_
                refine jj_imul X d_mo_arrive_135 136 rfl ?_
                refine jj_topv (y := nI (8 * k)) (pk_mul 8 _) ?_
                refine jj_iconst (v := 5) X d_mo_arrive_136 137 rfl (by decide) ?_
                refine jj_iadd X d_mo_arrive_137 138 rfl ?_
                refine jj_topv (y := nI (8 * k + 5)) (nI_add _ 5) ?_
                refine jj_iload_n X d_mo_arrive_138 139 rfl 3 rfl ?_
                refine jj_iast (ws' := mw cI cZ q ((ua (ua (ua A 0 (uz (A 0) 7 0)) 17 (upd (A 17) k 4)) 20 (upd (A 20) k d)))) X d_mo_arrive_139 140 rfl 8 0 rfl rfl (vp_in_nI (by omega) (by omega)) (by rw [nI_clamp (by omega)]; exact congrArg (fun z => List.set (mw cI cZ q ((ua (ua A 0 (uz (A 0) 7 0)) 17 (upd (A 17) k 4)))) 8 (q 8, .inl (cI, 1208, .inl z))) (mxu8_5 _ _)) ?_
                refine jj_aload_n X d_mo_arrive_140 141 rfl 0 rfl ?_
                refine jj_get (v := .ref (q 8)) X d_mo_arrive_141 144 rfl i_mo 13 f_mo_32 0 rfl rfl (by decide) rfl rfl ?_
                refine jj_bipush (v := 8) X d_mo_arrive_144 146 rfl (by decide) ?_
                refine jj_iload_n X d_mo_arrive_146 147 rfl 1 rfl ?_
                refine jj_imul X d_mo_arrive_147 148 rfl ?_
                refine jj_topv (y := nI (8 * k)) (pk_mul 8 _) ?_
                refine jj_iald (v := A 15 k) X d_mo_arrive_148 149 rfl 8 0 rfl rfl (vp_in_nI (by omega) (by omega)) ((ar_cl (by omega)).trans (mxr8_0 _)) ?_
                refine jj_topv (y := nI (A 15 k).toNatClampNeg) (vp_nI (hrg.1 _)) ?_
                refine jj_istore (lv' := [(0, .ref (q 0)), (1, .int (nI k)), (2, .int y), (3, .int d), (4, .int 0), (5, .int (nI (A 15 k).toNatClampNeg))]) X d_mo_arrive_149 151 rfl (by decide) rfl rfl ?_
                refine jj_aload_n X d_mo_arrive_151 152 rfl 0 rfl ?_
                refine jj_get (v := .ref (q 5)) X d_mo_arrive_152 155 rfl i_mo 9 f_mo_23 0 rfl rfl (by decide) rfl rfl ?_
                refine jj_iconst (v := 3) X d_mo_arrive_155 156 rfl (by decide) ?_
                refine jj_iload X d_mo_arrive_156 158 rfl 5 rfl ?_
                refine jj_imul X d_mo_arrive_158 159 rfl ?_
                refine jj_topv (y := nI (3 * (A 15 k).toNatClampNeg)) (pk_mul 3 _) ?_
                refine jj_iload_n X d_mo_arrive_159 160 rfl 2 rfl ?_
                refine jj_iast (ws' := mw cI cZ q ((ua (ua (ua (ua A 0 (uz (A 0) 7 0)) 11 (upd (A 11) ((A 15 k).toNatClampNeg) y)) 17 (upd (A 17) k 4)) 20 (upd (A 20) k d)))) X d_mo_arrive_160 161 rfl 5 0 rfl rfl (vp_in_nI (by omega) (by omega)) (by rw [nI_clamp (by omega)]; exact congrArg (fun z => List.set (mw cI cZ q ((ua (ua (ua A 0 (uz (A 0) 7 0)) 17 (upd (A 17) k 4)) 20 (upd (A 20) k d)))) 5 (q 5, .inl (cI, 183, .inl z))) (mxu3_0 _ _)) ?_
                refine jj_aload_n X d_mo_arrive_161 162 rfl 0 rfl ?_
                refine jj_get (v := .ref (q 5)) X d_mo_arrive_162 165 rfl i_mo 9 f_mo_23 0 rfl rfl (by decide) rfl rfl ?_
                refine jj_iconst (v := 3) X d_mo_arrive_165 166 rfl (by decide) ?_
                refine jj_iload X d_mo_arrive_166 168 rfl 5 rfl ?_
                refine jj_imul X d_mo_arrive_168 169 rfl ?_
                refine jj_topv (y := nI (3 * (A 15 k).toNatClampNeg)) (pk_mul 3 _) ?_
                refine jj_iconst (v := 2) X d_mo_arrive_169 170 rfl (by decide) ?_
                refine jj_iadd X d_mo_arrive_170 171 rfl ?_
                refine jj_topv (y := nI (3 * (A 15 k).toNatClampNeg + 2)) (nI_add _ 2) ?_
                refine jj_iconst (v := 0) X d_mo_arrive_171 172 rfl (by decide) ?_
                refine jj_iast (ws' := mw cI cZ q ((ua (ua (ua (ua (ua A 0 (uz (A 0) 7 0)) 11 (upd (A 11) ((A 15 k).toNatClampNeg) y)) 12 (upd (A 12) ((A 15 k).toNatClampNeg) 0)) 17 (upd (A 17) k 4)) 20 (upd (A 20) k d)))) X d_mo_arrive_172 173 rfl 5 0 rfl rfl (vp_in_nI (by omega) (by omega)) (by rw [nI_clamp (by omega)]; exact congrArg (fun z => List.set (mw cI cZ q ((ua (ua (ua (ua A 0 (uz (A 0) 7 0)) 11 (upd (A 11) ((A 15 k).toNatClampNeg) y)) 17 (upd (A 17) k 4)) 20 (upd (A 20) k d)))) 5 (q 5, .inl (cI, 183, .inl z))) (mxu3_2 _ _)) ?_
                refine jj_aload_n X d_mo_arrive_173 174 rfl 0 rfl ?_
                refine jj_get (v := .ref (q 5)) X d_mo_arrive_174 177 rfl i_mo 9 f_mo_23 0 rfl rfl (by decide) rfl rfl ?_
                refine jj_iconst (v := 3) X d_mo_arrive_177 178 rfl (by decide) ?_
                refine jj_iload X d_mo_arrive_178 180 rfl 5 rfl ?_
                refine jj_imul X d_mo_arrive_180 181 rfl ?_
                refine jj_topv (y := nI (3 * (A 15 k).toNatClampNeg)) (pk_mul 3 _) ?_
                refine jj_iconst (v := 1) X d_mo_arrive_181 182 rfl (by decide) ?_
                refine jj_iadd X d_mo_arrive_182 183 rfl ?_
                refine jj_topv (y := nI (3 * (A 15 k).toNatClampNeg + 1)) (nI_1 _) ?_
                refine jj_iload X d_mo_arrive_183 185 rfl 4 rfl ?_
                refine jj_if_eq X d_mo_arrive_185 202 188 (by decide) rfl (fun c185 => ?_) (fun c185 => ?_)
                · refine jj_aload_n X d_mo_arrive_202 203 rfl 0 rfl ?_
                  refine jj_get (v := .ref (q 5)) X d_mo_arrive_203 206 rfl i_mo 9 f_mo_23 0 rfl rfl (by decide) rfl rfl ?_
                  refine jj_iconst (v := 3) X d_mo_arrive_206 207 rfl (by decide) ?_
                  refine jj_iload X d_mo_arrive_207 209 rfl 5 rfl ?_
                  refine jj_imul X d_mo_arrive_209 210 rfl ?_
                  refine jj_topv (y := nI (3 * (A 15 k).toNatClampNeg)) (pk_mul 3 _) ?_
                  refine jj_iconst (v := 1) X d_mo_arrive_210 211 rfl (by decide) ?_
                  refine jj_iadd X d_mo_arrive_211 212 rfl ?_
                  refine jj_topv (y := nI (3 * (A 15 k).toNatClampNeg + 1)) (nI_1 _) ?_
                  refine jj_iald (v := A 10 (A 15 k).toNatClampNeg) X d_mo_arrive_212 213 rfl 5 0 rfl rfl (vp_in_nI (by omega) (by omega)) ((ar_cl (by omega)).trans (mxr3_1 _)) ?_
                  refine jj_iast (ws' := mw cI cZ q ((ua (ua (ua (ua (ua (ua A 0 (uz (A 0) 7 0)) 10 (upd (A 10) ((A 15 k).toNatClampNeg) (A 10 (A 15 k).toNatClampNeg))) 11 (upd (A 11) ((A 15 k).toNatClampNeg) y)) 12 (upd (A 12) ((A 15 k).toNatClampNeg) 0)) 17 (upd (A 17) k 4)) 20 (upd (A 20) k d)))) X d_mo_arrive_213 214 rfl 5 0 rfl rfl (vp_in_nI (by omega) (by omega)) (by rw [nI_clamp (by omega)]; exact congrArg (fun z => List.set (mw cI cZ q ((ua (ua (ua (ua (ua A 0 (uz (A 0) 7 0)) 11 (upd (A 11) ((A 15 k).toNatClampNeg) y)) 12 (upd (A 12) ((A 15 k).toNatClampNeg) 0)) 17 (upd (A 17) k 4)) 20 (upd (A 20) k d)))) 5 (q 5, .inl (cI, 183, .inl z))) (mxu3_1 _ _)) ?_
                  refine jj_iload X d_mo_arrive_214 216 rfl 4 rfl ?_
                  refine jj_if_eq X d_mo_arrive_216 223 219 (by decide) rfl (fun c216 => ?_) (fun c216 => ?_)
                  · refine jj_iconst (v := -1) X d_mo_arrive_223 224 rfl (by decide) ?_
                    exact jj_iret X hr hlk d_mo_arrive_224 (⟨by simp [s_arrM, okA, uwC, nI_clamp (show k < 2 ^ 31 by omega), c10, c18, c25, c40, c70, c97], by simp [s_arrM, okA, uwC, nI_clamp (show k < 2 ^ 31 by omega), c10, c18, c25, c40, c70, c97]⟩)
                  · exact absurd c216 (by decide)
                · exact absurd c185 (by decide)
              · exact absurd c119 (by decide)
            · have c97 := c97.symm
              refine jj_iconst (v := 1) X d_mo_arrive_100 101 rfl (by decide) ?_
              refine jj_goto X d_mo_arrive_101 105 (by decide) ?_
              refine jj_istore (lv' := [(0, .ref (q 0)), (1, .int (nI k)), (2, .int y), (3, .int d), (4, .int 1)]) X d_mo_arrive_105 107 rfl (by decide) rfl rfl ?_
              refine jj_aload_n X d_mo_arrive_107 108 rfl 0 rfl ?_
              refine jj_get (v := .ref (q 8)) X d_mo_arrive_108 111 rfl i_mo 13 f_mo_32 0 rfl rfl (by decide) rfl rfl ?_
              refine jj_bipush (v := 8) X d_mo_arrive_111 113 rfl (by decide) ?_
              refine jj_iload_n X d_mo_arrive_113 114 rfl 1 rfl ?_
              refine jj_imul X d_mo_arrive_114 115 rfl ?_
              refine jj_topv (y := nI (8 * k)) (pk_mul 8 _) ?_
              refine jj_iconst (v := 2) X d_mo_arrive_115 116 rfl (by decide) ?_
              refine jj_iadd X d_mo_arrive_116 117 rfl ?_
              refine jj_topv (y := nI (8 * k + 2)) (nI_add _ 2) ?_
              refine jj_iload X d_mo_arrive_117 119 rfl 4 rfl ?_
              refine jj_if_eq X d_mo_arrive_119 126 122 (by decide) rfl (fun c119 => ?_) (fun c119 => ?_)
              · exact absurd c119 (by decide)
              · refine jj_iconst (v := 2) X d_mo_arrive_122 123 rfl (by decide) ?_
                refine jj_goto X d_mo_arrive_123 127 (by decide) ?_
                refine jj_iast (ws' := mw cI cZ q ((ua (ua A 0 (uz (A 0) 7 0)) 17 (upd (A 17) k 2)))) X d_mo_arrive_127 128 rfl 8 0 rfl rfl (vp_in_nI (by omega) (by omega)) (by rw [nI_clamp (by omega)]; exact congrArg (fun z => List.set (mw cI cZ q ((ua A 0 (uz (A 0) 7 0)))) 8 (q 8, .inl (cI, 1208, .inl z))) (mxu8_2 _ _)) ?_
                refine jj_aload_n X d_mo_arrive_128 129 rfl 0 rfl ?_
                refine jj_get (v := .ref (q 8)) X d_mo_arrive_129 132 rfl i_mo 13 f_mo_32 0 rfl rfl (by decide) rfl rfl ?_
                refine jj_bipush (v := 8) X d_mo_arrive_132 134 rfl (by decide) ?_
                refine jj_iload_n X d_mo_arrive_134 135 rfl 1 rfl ?_
                refine jj_imul X d_mo_arrive_135 136 rfl ?_
                refine jj_topv (y := nI (8 * k)) (pk_mul 8 _) ?_
                refine jj_iconst (v := 5) X d_mo_arrive_136 137 rfl (by decide) ?_
                refine jj_iadd X d_mo_arrive_137 138 rfl ?_
                refine jj_topv (y := nI (8 * k + 5)) (nI_add _ 5) ?_
                refine jj_iload_n X d_mo_arrive_138 139 rfl 3 rfl ?_
                refine jj_iast (ws' := mw cI cZ q ((ua (ua (ua A 0 (uz (A 0) 7 0)) 17 (upd (A 17) k 2)) 20 (upd (A 20) k d)))) X d_mo_arrive_139 140 rfl 8 0 rfl rfl (vp_in_nI (by omega) (by omega)) (by rw [nI_clamp (by omega)]; exact congrArg (fun z => List.set (mw cI cZ q ((ua (ua A 0 (uz (A 0) 7 0)) 17 (upd (A 17) k 2)))) 8 (q 8, .inl (cI, 1208, .inl z))) (mxu8_5 _ _)) ?_
                refine jj_aload_n X d_mo_arrive_140 141 rfl 0 rfl ?_
                refine jj_get (v := .ref (q 8)) X d_mo_arrive_141 144 rfl i_mo 13 f_mo_32 0 rfl rfl (by decide) rfl rfl ?_
                refine jj_bipush (v := 8) X d_mo_arrive_144 146 rfl (by decide) ?_
                refine jj_iload_n X d_mo_arrive_146 147 rfl 1 rfl ?_
                refine jj_imul X d_mo_arrive_147 148 rfl ?_
                refine jj_topv (y := nI (8 * k)) (pk_mul 8 _) ?_
                refine jj_iald (v := A 15 k) X d_mo_arrive_148 149 rfl 8 0 rfl rfl (vp_in_nI (by omega) (by omega)) ((ar_cl (by omega)).trans (mxr8_0 _)) ?_
                refine jj_topv (y := nI (A 15 k).toNatClampNeg) (vp_nI (hrg.1 _)) ?_
                refine jj_istore (lv' := [(0, .ref (q 0)), (1, .int (nI k)), (2, .int y), (3, .int d), (4, .int 1), (5, .int (nI (A 15 k).toNatClampNeg))]) X d_mo_arrive_149 151 rfl (by decide) rfl rfl ?_
                refine jj_aload_n X d_mo_arrive_151 152 rfl 0 rfl ?_
                refine jj_get (v := .ref (q 5)) X d_mo_arrive_152 155 rfl i_mo 9 f_mo_23 0 rfl rfl (by decide) rfl rfl ?_
                refine jj_iconst (v := 3) X d_mo_arrive_155 156 rfl (by decide) ?_
                refine jj_iload X d_mo_arrive_156 158 rfl 5 rfl ?_
                refine jj_imul X d_mo_arrive_158 159 rfl ?_
                refine jj_topv (y := nI (3 * (A 15 k).toNatClampNeg)) (pk_mul 3 _) ?_
                refine jj_iload_n X d_mo_arrive_159 160 rfl 2 rfl ?_
                refine jj_iast (ws' := mw cI cZ q ((ua (ua (ua (ua A 0 (uz (A 0) 7 0)) 11 (upd (A 11) ((A 15 k).toNatClampNeg) y)) 17 (upd (A 17) k 2)) 20 (upd (A 20) k d)))) X d_mo_arrive_160 161 rfl 5 0 rfl rfl (vp_in_nI (by omega) (by omega)) (by rw [nI_clamp (by omega)]; exact congrArg (fun z => List.set (mw cI cZ q ((ua (ua (ua A 0 (uz (A 0) 7 0)) 17 (upd (A 17) k 2)) 20 (upd (A 20) k d)))) 5 (q 5, .inl (cI, 183, .inl z))) (mxu3_0 _ _)) ?_
                refine jj_aload_n X d_mo_arrive_161 162 rfl 0 rfl ?_
                refine jj_get (v := .ref (q 5)) X d_mo_arrive_162 165 rfl i_mo 9 f_mo_23 0 rfl rfl (by decide) rfl rfl ?_
                refine jj_iconst (v := 3) X d_mo_arrive_165 166 rfl (by decide) ?_
                refine jj_iload X d_mo_arrive_166 168 rfl 5 rfl ?_
                refine jj_imul X d_mo_arrive_168 169 rfl ?_
                refine jj_topv (y := nI (3 * (A 15 k).toNatClampNeg)) (pk_mul 3 _) ?_
                refine jj_iconst (v := 2) X d_mo_arrive_169 170 rfl (by decide) ?_
                refine jj_iadd X d_mo_arrive_170 171 rfl ?_
                refine jj_topv (y := nI (3 * (A 15 k).toNatClampNeg + 2)) (nI_add _ 2) ?_
                refine jj_iconst (v := 0) X d_mo_arrive_171 172 rfl (by decide) ?_
                refine jj_iast (ws' := mw cI cZ q ((ua (ua (ua (ua (ua A 0 (uz (A 0) 7 0)) 11 (upd (A 11) ((A 15 k).toNatClampNeg) y)) 12 (upd (A 12) ((A 15 k).toNatClampNeg) 0)) 17 (upd (A 17) k 2)) 20 (upd (A 20) k d)))) X d_mo_arrive_172 173 rfl 5 0 rfl rfl (vp_in_nI (by omega) (by omega)) (by rw [nI_clamp (by omega)]; exact congrArg (fun z => List.set (mw cI cZ q ((ua (ua (ua (ua A 0 (uz (A 0) 7 0)) 11 (upd (A 11) ((A 15 k).toNatClampNeg) y)) 17 (upd (A 17) k 2)) 20 (upd (A 20) k d)))) 5 (q 5, .inl (cI, 183, .inl z))) (mxu3_2 _ _)) ?_
                refine jj_aload_n X d_mo_arrive_173 174 rfl 0 rfl ?_
                refine jj_get (v := .ref (q 5)) X d_mo_arrive_174 177 rfl i_mo 9 f_mo_23 0 rfl rfl (by decide) rfl rfl ?_
                refine jj_iconst (v := 3) X d_mo_arrive_177 178 rfl (by decide) ?_
                refine jj_iload X d_mo_arrive_178 180 rfl 5 rfl ?_
                refine jj_imul X d_mo_arrive_180 181 rfl ?_
                refine jj_topv (y := nI (3 * (A 15 k).toNatClampNeg)) (pk_mul 3 _) ?_
                refine jj_iconst (v := 1) X d_mo_arrive_181 182 rfl (by decide) ?_
                refine jj_iadd X d_mo_arrive_182 183 rfl ?_
                refine jj_topv (y := nI (3 * (A 15 k).toNatClampNeg + 1)) (nI_1 _) ?_
                refine jj_iload X d_mo_arrive_183 185 rfl 4 rfl ?_
                refine jj_if_eq X d_mo_arrive_185 202 188 (by decide) rfl (fun c185 => ?_) (fun c185 => ?_)
                · exact absurd c185 (by decide)
                · refine jj_aload_n X d_mo_arrive_188 189 rfl 0 rfl ?_
                  refine jj_get (v := .ref (q 7)) X d_mo_arrive_189 192 rfl i_mo 11 f_mo_29 0 rfl rfl (by decide) rfl rfl ?_
                  refine jj_iload X d_mo_arrive_192 194 rfl 5 rfl ?_
                  refine jj_zald (v := A 14 (A 15 k).toNatClampNeg) X d_mo_arrive_194 195 rfl 7 1 rfl rfl (by rw [← vp_nI (hrg.1 k)]; exact hrg.1 k) (ar_cl (by omega)) ?_
                  refine jj_if_eq X d_mo_arrive_195 202 198 (by decide) rfl (fun c195 => ?_) (fun c195 => ?_)
                  · refine jj_aload_n X d_mo_arrive_202 203 rfl 0 rfl ?_
                    refine jj_get (v := .ref (q 5)) X d_mo_arrive_203 206 rfl i_mo 9 f_mo_23 0 rfl rfl (by decide) rfl rfl ?_
                    refine jj_iconst (v := 3) X d_mo_arrive_206 207 rfl (by decide) ?_
                    refine jj_iload X d_mo_arrive_207 209 rfl 5 rfl ?_
                    refine jj_imul X d_mo_arrive_209 210 rfl ?_
                    refine jj_topv (y := nI (3 * (A 15 k).toNatClampNeg)) (pk_mul 3 _) ?_
                    refine jj_iconst (v := 1) X d_mo_arrive_210 211 rfl (by decide) ?_
                    refine jj_iadd X d_mo_arrive_211 212 rfl ?_
                    refine jj_topv (y := nI (3 * (A 15 k).toNatClampNeg + 1)) (nI_1 _) ?_
                    refine jj_iald (v := A 10 (A 15 k).toNatClampNeg) X d_mo_arrive_212 213 rfl 5 0 rfl rfl (vp_in_nI (by omega) (by omega)) ((ar_cl (by omega)).trans (mxr3_1 _)) ?_
                    refine jj_iast (ws' := mw cI cZ q ((ua (ua (ua (ua (ua (ua A 0 (uz (A 0) 7 0)) 10 (upd (A 10) ((A 15 k).toNatClampNeg) (A 10 (A 15 k).toNatClampNeg))) 11 (upd (A 11) ((A 15 k).toNatClampNeg) y)) 12 (upd (A 12) ((A 15 k).toNatClampNeg) 0)) 17 (upd (A 17) k 2)) 20 (upd (A 20) k d)))) X d_mo_arrive_213 214 rfl 5 0 rfl rfl (vp_in_nI (by omega) (by omega)) (by rw [nI_clamp (by omega)]; exact congrArg (fun z => List.set (mw cI cZ q ((ua (ua (ua (ua (ua A 0 (uz (A 0) 7 0)) 11 (upd (A 11) ((A 15 k).toNatClampNeg) y)) 12 (upd (A 12) ((A 15 k).toNatClampNeg) 0)) 17 (upd (A 17) k 2)) 20 (upd (A 20) k d)))) 5 (q 5, .inl (cI, 183, .inl z))) (mxu3_1 _ _)) ?_
                    refine jj_iload X d_mo_arrive_214 216 rfl 4 rfl ?_
                    refine jj_if_eq X d_mo_arrive_216 223 219 (by decide) rfl (fun c216 => ?_) (fun c216 => ?_)
                    · exact absurd c216 (by decide)
                    · refine jj_iconst (v := 1) X d_mo_arrive_219 220 rfl (by decide) ?_
                      refine jj_goto X d_mo_arrive_220 224 (by decide) ?_
                      exact jj_iret X hr hlk d_mo_arrive_224 (⟨by simp [s_arrM, okA, uwC, nI_clamp (show k < 2 ^ 31 by omega), c10, c18, c25, c40, c70, c97, c195], by simp [s_arrM, okA, uwC, nI_clamp (show k < 2 ^ 31 by omega), c10, c18, c25, c40, c70, c97, c195]⟩)
                  · refine jj_iload_n X d_mo_arrive_198 199 rfl 2 rfl ?_
                    refine jj_goto X d_mo_arrive_199 213 (by decide) ?_
                    refine jj_iast (ws' := mw cI cZ q ((ua (ua (ua (ua (ua (ua A 0 (uz (A 0) 7 0)) 10 (upd (A 10) ((A 15 k).toNatClampNeg) y)) 11 (upd (A 11) ((A 15 k).toNatClampNeg) y)) 12 (upd (A 12) ((A 15 k).toNatClampNeg) 0)) 17 (upd (A 17) k 2)) 20 (upd (A 20) k d)))) X d_mo_arrive_213 214 rfl 5 0 rfl rfl (vp_in_nI (by omega) (by omega)) (by rw [nI_clamp (by omega)]; exact congrArg (fun z => List.set (mw cI cZ q ((ua (ua (ua (ua (ua A 0 (uz (A 0) 7 0)) 11 (upd (A 11) ((A 15 k).toNatClampNeg) y)) 12 (upd (A 12) ((A 15 k).toNatClampNeg) 0)) 17 (upd (A 17) k 2)) 20 (upd (A 20) k d)))) 5 (q 5, .inl (cI, 183, .inl z))) (mxu3_1 _ _)) ?_
                    refine jj_iload X d_mo_arrive_214 216 rfl 4 rfl ?_
                    refine jj_if_eq X d_mo_arrive_216 223 219 (by decide) rfl (fun c216 => ?_) (fun c216 => ?_)
                    · exact absurd c216 (by decide)
                    · refine jj_iconst (v := 1) X d_mo_arrive_219 220 rfl (by decide) ?_
                      refine jj_goto X d_mo_arrive_220 224 (by decide) ?_
                      exact jj_iret X hr hlk d_mo_arrive_224 (⟨by simp [s_arrM, okA, uwC, nI_clamp (show k < 2 ^ 31 by omega), c10, c18, c25, c40, c70, c97, c195], by simp [s_arrM, okA, uwC, nI_clamp (show k < 2 ^ 31 by omega), c10, c18, c25, c40, c70, c97, c195]⟩)
          · refine jj_iconst (v := 0) X d_mo_arrive_73 74 rfl (by decide) ?_
            exact jj_iret X hr hlk d_mo_arrive_74 (⟨by simp [s_arrM, okA, uwC, nI_clamp (show k < 2 ^ 31 by omega), *], by simp [s_arrM, okA, uwC, nI_clamp (show k < 2 ^ 31 by omega), *]; rfl⟩)
        · refine jj_aload_n X d_mo_arrive_43 44 rfl 0 rfl ?_
          refine jj_get (v := .ref (q 8)) X d_mo_arrive_44 47 rfl i_mo 13 f_mo_32 0 rfl rfl (by decide) rfl rfl ?_
          refine jj_bipush (v := 8) X d_mo_arrive_47 49 rfl (by decide) ?_
          refine jj_iload_n X d_mo_arrive_49 50 rfl 1 rfl ?_
          refine jj_imul X d_mo_arrive_50 51 rfl ?_
          refine jj_topv (y := nI (8 * k)) (pk_mul 8 _) ?_
          refine jj_iconst (v := 2) X d_mo_arrive_51 52 rfl (by decide) ?_
          refine jj_iadd X d_mo_arrive_52 53 rfl ?_
          refine jj_topv (y := nI (8 * k + 2)) (nI_add _ 2) ?_
          refine jj_iald (v := A 17 k) X d_mo_arrive_53 54 rfl 8 0 rfl rfl (vp_in_nI (by omega) (by omega)) ((ar_cl (by omega)).trans (mxr8_2 _)) ?_
          refine jj_iconst (v := 3) X d_mo_arrive_54 55 rfl (by decide) ?_
          refine jj_icmp_ne X d_mo_arrive_55 73 58 (by decide) rfl (fun c55 => ?_) (fun c55 => ?_)
          · refine jj_iconst (v := 0) X d_mo_arrive_73 74 rfl (by decide) ?_
            exact jj_iret X hr hlk d_mo_arrive_74 (⟨by simp [s_arrM, okA, uwC, nI_clamp (show k < 2 ^ 31 by omega), *], by simp [s_arrM, okA, uwC, nI_clamp (show k < 2 ^ 31 by omega), *]; rfl⟩)
          · refine jj_iload_n X d_mo_arrive_58 59 rfl 3 rfl ?_
            refine jj_aload_n X d_mo_arrive_59 60 rfl 0 rfl ?_
            refine jj_get (v := .ref (q 8)) X d_mo_arrive_60 63 rfl i_mo 13 f_mo_32 0 rfl rfl (by decide) rfl rfl ?_
            refine jj_bipush (v := 8) X d_mo_arrive_63 65 rfl (by decide) ?_
            refine jj_iload_n X d_mo_arrive_65 66 rfl 1 rfl ?_
            refine jj_imul X d_mo_arrive_66 67 rfl ?_
            refine jj_topv (y := nI (8 * k)) (pk_mul 8 _) ?_
            refine jj_iconst (v := 4) X d_mo_arrive_67 68 rfl (by decide) ?_
            refine jj_iadd X d_mo_arrive_68 69 rfl ?_
            refine jj_topv (y := nI (8 * k + 4)) (nI_add _ 4) ?_
            refine jj_iald (v := A 19 k) X d_mo_arrive_69 70 rfl 8 0 rfl rfl (vp_in_nI (by omega) (by omega)) ((ar_cl (by omega)).trans (mxr8_4 _)) ?_
            refine jj_icmp_ge X d_mo_arrive_70 75 73 (by decide) rfl (fun c70 => ?_) (fun c70 => ?_)
            · refine jj_iload_n X d_mo_arrive_75 76 rfl 2 rfl ?_
              refine jj_aload_n X d_mo_arrive_76 77 rfl 0 rfl ?_
              refine jj_get (v := .ref (q 2)) X d_mo_arrive_77 80 rfl i_mo 4 f_mo_13 0 rfl rfl (by decide) rfl rfl ?_
              refine jj_bipush (v := 6) X d_mo_arrive_80 82 rfl (by decide) ?_
              refine jj_aload_n X d_mo_arrive_82 83 rfl 0 rfl ?_
              refine jj_get (v := .ref (q 8)) X d_mo_arrive_83 86 rfl i_mo 13 f_mo_32 0 rfl rfl (by decide) rfl rfl ?_
              refine jj_bipush (v := 8) X d_mo_arrive_86 88 rfl (by decide) ?_
              refine jj_iload_n X d_mo_arrive_88 89 rfl 1 rfl ?_
              refine jj_imul X d_mo_arrive_89 90 rfl ?_
              refine jj_topv (y := nI (8 * k)) (pk_mul 8 _) ?_
              refine jj_iconst (v := 1) X d_mo_arrive_90 91 rfl (by decide) ?_
              refine jj_iadd X d_mo_arrive_91 92 rfl ?_
              refine jj_topv (y := nI (8 * k + 1)) (nI_1 _) ?_
              refine jj_iald (v := A 16 k) X d_mo_arrive_92 93 rfl 8 0 rfl rfl (vp_in_nI (by omega) (by omega)) ((ar_cl (by omega)).trans (mxr8_1 _)) ?_
              refine jj_topv (y := nI (A 16 k).toNatClampNeg) (vp_nI (hrg.2.1 _)) ?_
              refine jj_imul X d_mo_arrive_93 94 rfl ?_
              refine jj_topv (y := nI (6 * (A 16 k).toNatClampNeg)) (pk_mul 6 _) ?_
              refine jj_iconst (v := 1) X d_mo_arrive_94 95 rfl (by decide) ?_
              refine jj_iadd X d_mo_arrive_95 96 rfl ?_
              refine jj_topv (y := nI (6 * (A 16 k).toNatClampNeg + 1)) (nI_1 _) ?_
              refine jj_iald (v := A 3 (A 16 k).toNatClampNeg) X d_mo_arrive_96 97 rfl 2 0 rfl rfl (vp_in_nI (by omega) (by omega)) ((ar_cl (by omega)).trans (mxr6_1 _)) ?_
              refine jj_icmp_ne X d_mo_arrive_97 104 100 (by decide) rfl (fun c97 => ?_) (fun c97 => ?_)
              · have c97 := Ne.symm c97
                refine jj_iconst (v := 0) X d_mo_arrive_104 105 rfl (by decide) ?_
                refine jj_istore (lv' := [(0, .ref (q 0)), (1, .int (nI k)), (2, .int y), (3, .int d), (4, .int 0)]) X d_mo_arrive_105 107 rfl (by decide) rfl rfl ?_
                refine jj_aload_n X d_mo_arrive_107 108 rfl 0 rfl ?_
                refine jj_get (v := .ref (q 8)) X d_mo_arrive_108 111 rfl i_mo 13 f_mo_32 0 rfl rfl (by decide) rfl rfl ?_
                refine jj_bipush (v := 8) X d_mo_arrive_111 113 rfl (by decide) ?_
                refine jj_iload_n X d_mo_arrive_113 114 rfl 1 rfl ?_
                refine jj_imul X d_mo_arrive_114 115 rfl ?_
                refine jj_topv (y := nI (8 * k)) (pk_mul 8 _) ?_
                refine jj_iconst (v := 2) X d_mo_arrive_115 116 rfl (by decide) ?_
                refine jj_iadd X d_mo_arrive_116 117 rfl ?_
                refine jj_topv (y := nI (8 * k + 2)) (nI_add _ 2) ?_
                refine jj_iload X d_mo_arrive_117 119 rfl 4 rfl ?_
                refine jj_if_eq X d_mo_arrive_119 126 122 (by decide) rfl (fun c119 => ?_) (fun c119 => ?_)
                · refine jj_iconst (v := 4) X d_mo_arrive_126 127 rfl (by decide) ?_
                  refine jj_iast (ws' := mw cI cZ q ((ua (ua A 0 (uz (A 0) 7 0)) 17 (upd (A 17) k 4)))) X d_mo_arrive_127 128 rfl 8 0 rfl rfl (vp_in_nI (by omega) (by omega)) (by rw [nI_clamp (by omega)]; exact congrArg (fun z => List.set (mw cI cZ q ((ua A 0 (uz (A 0) 7 0)))) 8 (q 8, .inl (cI, 1208, .inl z))) (mxu8_2 _ _)) ?_
                  refine jj_aload_n X d_mo_arrive_128 129 rfl 0 rfl ?_
                  refine jj_get (v := .ref (q 8)) X d_mo_arrive_129 132 rfl i_mo 13 f_mo_32 0 rfl rfl (by decide) rfl rfl ?_
                  refine jj_bipush (v := 8) X d_mo_arrive_132 134 rfl (by decide) ?_
                  refine jj_iload_n X d_mo_arrive_134 135 rfl 1 rfl ?_
                  refine jj_imul X d_mo_arrive_135 136 rfl ?_
                  refine jj_topv (y := nI (8 * k)) (pk_mul 8 _) ?_
                  refine jj_iconst (v := 5) X d_mo_arrive_136 137 rfl (by decide) ?_
                  refine jj_iadd X d_mo_arrive_137 138 rfl ?_
                  refine jj_topv (y := nI (8 * k + 5)) (nI_add _ 5) ?_
                  refine jj_iload_n X d_mo_arrive_138 139 rfl 3 rfl ?_
                  refine jj_iast (ws' := mw cI cZ q ((ua (ua (ua A 0 (uz (A 0) 7 0)) 17 (upd (A 17) k 4)) 20 (upd (A 20) k d)))) X d_mo_arrive_139 140 rfl 8 0 rfl rfl (vp_in_nI (by omega) (by omega)) (by rw [nI_clamp (by omega)]; exact congrArg (fun z => List.set (mw cI cZ q ((ua (ua A 0 (uz (A 0) 7 0)) 17 (upd (A 17) k 4)))) 8 (q 8, .inl (cI, 1208, .inl z))) (mxu8_5 _ _)) ?_
                  refine jj_aload_n X d_mo_arrive_140 141 rfl 0 rfl ?_
                  refine jj_get (v := .ref (q 8)) X d_mo_arrive_141 144 rfl i_mo 13 f_mo_32 0 rfl rfl (by decide) rfl rfl ?_
                  refine jj_bipush (v := 8) X d_mo_arrive_144 146 rfl (by decide) ?_
                  refine jj_iload_n X d_mo_arrive_146 147 rfl 1 rfl ?_
                  refine jj_imul X d_mo_arrive_147 148 rfl ?_
                  refine jj_topv (y := nI (8 * k)) (pk_mul 8 _) ?_
                  refine jj_iald (v := A 15 k) X d_mo_arrive_148 149 rfl 8 0 rfl rfl (vp_in_nI (by omega) (by omega)) ((ar_cl (by omega)).trans (mxr8_0 _)) ?_
                  refine jj_topv (y := nI (A 15 k).toNatClampNeg) (vp_nI (hrg.1 _)) ?_
                  refine jj_istore (lv' := [(0, .ref (q 0)), (1, .int (nI k)), (2, .int y), (3, .int d), (4, .int 0), (5, .int (nI (A 15 k).toNatClampNeg))]) X d_mo_arrive_149 151 rfl (by decide) rfl rfl ?_
                  refine jj_aload_n X d_mo_arrive_151 152 rfl 0 rfl ?_
                  refine jj_get (v := .ref (q 5)) X d_mo_arrive_152 155 rfl i_mo 9 f_mo_23 0 rfl rfl (by decide) rfl rfl ?_
                  refine jj_iconst (v := 3) X d_mo_arrive_155 156 rfl (by decide) ?_
                  refine jj_iload X d_mo_arrive_156 158 rfl 5 rfl ?_
                  refine jj_imul X d_mo_arrive_158 159 rfl ?_
                  refine jj_topv (y := nI (3 * (A 15 k).toNatClampNeg)) (pk_mul 3 _) ?_
                  refine jj_iload_n X d_mo_arrive_159 160 rfl 2 rfl ?_
                  refine jj_iast (ws' := mw cI cZ q ((ua (ua (ua (ua A 0 (uz (A 0) 7 0)) 11 (upd (A 11) ((A 15 k).toNatClampNeg) y)) 17 (upd (A 17) k 4)) 20 (upd (A 20) k d)))) X d_mo_arrive_160 161 rfl 5 0 rfl rfl (vp_in_nI (by omega) (by omega)) (by rw [nI_clamp (by omega)]; exact congrArg (fun z => List.set (mw cI cZ q ((ua (ua (ua A 0 (uz (A 0) 7 0)) 17 (upd (A 17) k 4)) 20 (upd (A 20) k d)))) 5 (q 5, .inl (cI, 183, .inl z))) (mxu3_0 _ _)) ?_
                  refine jj_aload_n X d_mo_arrive_161 162 rfl 0 rfl ?_
                  refine jj_get (v := .ref (q 5)) X d_mo_arrive_162 165 rfl i_mo 9 f_mo_23 0 rfl rfl (by decide) rfl rfl ?_
                  refine jj_iconst (v := 3) X d_mo_arrive_165 166 rfl (by decide) ?_
                  refine jj_iload X d_mo_arrive_166 168 rfl 5 rfl ?_
                  refine jj_imul X d_mo_arrive_168 169 rfl ?_
                  refine jj_topv (y := nI (3 * (A 15 k).toNatClampNeg)) (pk_mul 3 _) ?_
                  refine jj_iconst (v := 2) X d_mo_arrive_169 170 rfl (by decide) ?_
                  refine jj_iadd X d_mo_arrive_170 171 rfl ?_
                  refine jj_topv (y := nI (3 * (A 15 k).toNatClampNeg + 2)) (nI_add _ 2) ?_
                  refine jj_iconst (v := 0) X d_mo_arrive_171 172 rfl (by decide) ?_
                  refine jj_iast (ws' := mw cI cZ q ((ua (ua (ua (ua (ua A 0 (uz (A 0) 7 0)) 11 (upd (A 11) ((A 15 k).toNatClampNeg) y)) 12 (upd (A 12) ((A 15 k).toNatClampNeg) 0)) 17 (upd (A 17) k 4)) 20 (upd (A 20) k d)))) X d_mo_arrive_172 173 rfl 5 0 rfl rfl (vp_in_nI (by omega) (by omega)) (by rw [nI_clamp (by omega)]; exact congrArg (fun z => List.set (mw cI cZ q ((ua (ua (ua (ua A 0 (uz (A 0) 7 0)) 11 (upd (A 11) ((A 15 k).toNatClampNeg) y)) 17 (upd (A 17) k 4)) 20 (upd (A 20) k d)))) 5 (q 5, .inl (cI, 183, .inl z))) (mxu3_2 _ _)) ?_
                  refine jj_aload_n X d_mo_arrive_173 174 rfl 0 rfl ?_
                  refine jj_get (v := .ref (q 5)) X d_mo_arrive_174 177 rfl i_mo 9 f_mo_23 0 rfl rfl (by decide) rfl rfl ?_
                  refine jj_iconst (v := 3) X d_mo_arrive_177 178 rfl (by decide) ?_
                  refine jj_iload X d_mo_arrive_178 180 rfl 5 rfl ?_
                  refine jj_imul X d_mo_arrive_180 181 rfl ?_
                  refine jj_topv (y := nI (3 * (A 15 k).toNatClampNeg)) (pk_mul 3 _) ?_
                  refine jj_iconst (v := 1) X d_mo_arrive_181 182 rfl (by decide) ?_
                  refine jj_iadd X d_mo_arrive_182 183 rfl ?_
                  refine jj_topv (y := nI (3 * (A 15 k).toNatClampNeg + 1)) (nI_1 _) ?_
                  refine jj_iload X d_mo_arrive_183 185 rfl 4 rfl ?_
                  refine jj_if_eq X d_mo_arrive_185 202 188 (by decide) rfl (fun c185 => ?_) (fun c185 => ?_)
                  · refine jj_aload_n X d_mo_arrive_202 203 rfl 0 rfl ?_
                    refine jj_get (v := .ref (q 5)) X d_mo_arrive_203 206 rfl i_mo 9 f_mo_23 0 rfl rfl (by decide) rfl rfl ?_
                    refine jj_iconst (v := 3) X d_mo_arrive_206 207 rfl (by decide) ?_
                    refine jj_iload X d_mo_arrive_207 209 rfl 5 rfl ?_
                    refine jj_imul X d_mo_arrive_209 210 rfl ?_
                    refine jj_topv (y := nI (3 * (A 15 k).toNatClampNeg)) (pk_mul 3 _) ?_
                    refine jj_iconst (v := 1) X d_mo_arrive_210 211 rfl (by decide) ?_
                    refine jj_iadd X d_mo_arrive_211 212 rfl ?_
                    refine jj_topv (y := nI (3 * (A 15 k).toNatClampNeg + 1)) (nI_1 _) ?_
                    refine jj_iald (v := A 10 (A 15 k).toNatClampNeg) X d_mo_arrive_212 213 rfl 5 0 rfl rfl (vp_in_nI (by omega) (by omega)) ((ar_cl (by omega)).trans (mxr3_1 _)) ?_
                    refine jj_iast (ws' := mw cI cZ q ((ua (ua (ua (ua (ua (ua A 0 (uz (A 0) 7 0)) 10 (upd (A 10) ((A 15 k).toNatClampNeg) (A 10 (A 15 k).toNatClampNeg))) 11 (upd (A 11) ((A 15 k).toNatClampNeg) y)) 12 (upd (A 12) ((A 15 k).toNatClampNeg) 0)) 17 (upd (A 17) k 4)) 20 (upd (A 20) k d)))) X d_mo_arrive_213 214 rfl 5 0 rfl rfl (vp_in_nI (by omega) (by omega)) (by rw [nI_clamp (by omega)]; exact congrArg (fun z => List.set (mw cI cZ q ((ua (ua (ua (ua (ua A 0 (uz (A 0) 7 0)) 11 (upd (A 11) ((A 15 k).toNatClampNeg) y)) 12 (upd (A 12) ((A 15 k).toNatClampNeg) 0)) 17 (upd (A 17) k 4)) 20 (upd (A 20) k d)))) 5 (q 5, .inl (cI, 183, .inl z))) (mxu3_1 _ _)) ?_
                    refine jj_iload X d_mo_arrive_214 216 rfl 4 rfl ?_
                    refine jj_if_eq X d_mo_arrive_216 223 219 (by decide) rfl (fun c216 => ?_) (fun c216 => ?_)
                    · refine jj_iconst (v := -1) X d_mo_arrive_223 224 rfl (by decide) ?_
                      exact jj_iret X hr hlk d_mo_arrive_224 (⟨by simp [s_arrM, okA, uwC, nI_clamp (show k < 2 ^ 31 by omega), c10, c18, c25, c40, c55, c70, c97], by simp [s_arrM, okA, uwC, nI_clamp (show k < 2 ^ 31 by omega), c10, c18, c25, c40, c55, c70, c97]⟩)
                    · exact absurd c216 (by decide)
                  · exact absurd c185 (by decide)
                · exact absurd c119 (by decide)
              · have c97 := c97.symm
                refine jj_iconst (v := 1) X d_mo_arrive_100 101 rfl (by decide) ?_
                refine jj_goto X d_mo_arrive_101 105 (by decide) ?_
                refine jj_istore (lv' := [(0, .ref (q 0)), (1, .int (nI k)), (2, .int y), (3, .int d), (4, .int 1)]) X d_mo_arrive_105 107 rfl (by decide) rfl rfl ?_
                refine jj_aload_n X d_mo_arrive_107 108 rfl 0 rfl ?_
                refine jj_get (v := .ref (q 8)) X d_mo_arrive_108 111 rfl i_mo 13 f_mo_32 0 rfl rfl (by decide) rfl rfl ?_
                refine jj_bipush (v := 8) X d_mo_arrive_111 113 rfl (by decide) ?_
                refine jj_iload_n X d_mo_arrive_113 114 rfl 1 rfl ?_
                refine jj_imul X d_mo_arrive_114 115 rfl ?_
                refine jj_topv (y := nI (8 * k)) (pk_mul 8 _) ?_
                refine jj_iconst (v := 2) X d_mo_arrive_115 116 rfl (by decide) ?_
                refine jj_iadd X d_mo_arrive_116 117 rfl ?_
                refine jj_topv (y := nI (8 * k + 2)) (nI_add _ 2) ?_
                refine jj_iload X d_mo_arrive_117 119 rfl 4 rfl ?_
                refine jj_if_eq X d_mo_arrive_119 126 122 (by decide) rfl (fun c119 => ?_) (fun c119 => ?_)
                · exact absurd c119 (by decide)
                · refine jj_iconst (v := 2) X d_mo_arrive_122 123 rfl (by decide) ?_
                  refine jj_goto X d_mo_arrive_123 127 (by decide) ?_
                  refine jj_iast (ws' := mw cI cZ q ((ua (ua A 0 (uz (A 0) 7 0)) 17 (upd (A 17) k 2)))) X d_mo_arrive_127 128 rfl 8 0 rfl rfl (vp_in_nI (by omega) (by omega)) (by rw [nI_clamp (by omega)]; exact congrArg (fun z => List.set (mw cI cZ q ((ua A 0 (uz (A 0) 7 0)))) 8 (q 8, .inl (cI, 1208, .inl z))) (mxu8_2 _ _)) ?_
                  refine jj_aload_n X d_mo_arrive_128 129 rfl 0 rfl ?_
                  refine jj_get (v := .ref (q 8)) X d_mo_arrive_129 132 rfl i_mo 13 f_mo_32 0 rfl rfl (by decide) rfl rfl ?_
                  refine jj_bipush (v := 8) X d_mo_arrive_132 134 rfl (by decide) ?_
                  refine jj_iload_n X d_mo_arrive_134 135 rfl 1 rfl ?_
                  refine jj_imul X d_mo_arrive_135 136 rfl ?_
                  refine jj_topv (y := nI (8 * k)) (pk_mul 8 _) ?_
                  refine jj_iconst (v := 5) X d_mo_arrive_136 137 rfl (by decide) ?_
                  refine jj_iadd X d_mo_arrive_137 138 rfl ?_
                  refine jj_topv (y := nI (8 * k + 5)) (nI_add _ 5) ?_
                  refine jj_iload_n X d_mo_arrive_138 139 rfl 3 rfl ?_
                  refine jj_iast (ws' := mw cI cZ q ((ua (ua (ua A 0 (uz (A 0) 7 0)) 17 (upd (A 17) k 2)) 20 (upd (A 20) k d)))) X d_mo_arrive_139 140 rfl 8 0 rfl rfl (vp_in_nI (by omega) (by omega)) (by rw [nI_clamp (by omega)]; exact congrArg (fun z => List.set (mw cI cZ q ((ua (ua A 0 (uz (A 0) 7 0)) 17 (upd (A 17) k 2)))) 8 (q 8, .inl (cI, 1208, .inl z))) (mxu8_5 _ _)) ?_
                  refine jj_aload_n X d_mo_arrive_140 141 rfl 0 rfl ?_
                  refine jj_get (v := .ref (q 8)) X d_mo_arrive_141 144 rfl i_mo 13 f_mo_32 0 rfl rfl (by decide) rfl rfl ?_
                  refine jj_bipush (v := 8) X d_mo_arrive_144 146 rfl (by decide) ?_
                  refine jj_iload_n X d_mo_arrive_146 147 rfl 1 rfl ?_
                  refine jj_imul X d_mo_arrive_147 148 rfl ?_
                  refine jj_topv (y := nI (8 * k)) (pk_mul 8 _) ?_
                  refine jj_iald (v := A 15 k) X d_mo_arrive_148 149 rfl 8 0 rfl rfl (vp_in_nI (by omega) (by omega)) ((ar_cl (by omega)).trans (mxr8_0 _)) ?_
                  refine jj_topv (y := nI (A 15 k).toNatClampNeg) (vp_nI (hrg.1 _)) ?_
                  refine jj_istore (lv' := [(0, .ref (q 0)), (1, .int (nI k)), (2, .int y), (3, .int d), (4, .int 1), (5, .int (nI (A 15 k).toNatClampNeg))]) X d_mo_arrive_149 151 rfl (by decide) rfl rfl ?_
                  refine jj_aload_n X d_mo_arrive_151 152 rfl 0 rfl ?_
                  refine jj_get (v := .ref (q 5)) X d_mo_arrive_152 155 rfl i_mo 9 f_mo_23 0 rfl rfl (by decide) rfl rfl ?_
                  refine jj_iconst (v := 3) X d_mo_arrive_155 156 rfl (by decide) ?_
                  refine jj_iload X d_mo_arrive_156 158 rfl 5 rfl ?_
                  refine jj_imul X d_mo_arrive_158 159 rfl ?_
                  refine jj_topv (y := nI (3 * (A 15 k).toNatClampNeg)) (pk_mul 3 _) ?_
                  refine jj_iload_n X d_mo_arrive_159 160 rfl 2 rfl ?_
                  refine jj_iast (ws' := mw cI cZ q ((ua (ua (ua (ua A 0 (uz (A 0) 7 0)) 11 (upd (A 11) ((A 15 k).toNatClampNeg) y)) 17 (upd (A 17) k 2)) 20 (upd (A 20) k d)))) X d_mo_arrive_160 161 rfl 5 0 rfl rfl (vp_in_nI (by omega) (by omega)) (by rw [nI_clamp (by omega)]; exact congrArg (fun z => List.set (mw cI cZ q ((ua (ua (ua A 0 (uz (A 0) 7 0)) 17 (upd (A 17) k 2)) 20 (upd (A 20) k d)))) 5 (q 5, .inl (cI, 183, .inl z))) (mxu3_0 _ _)) ?_
                  refine jj_aload_n X d_mo_arrive_161 162 rfl 0 rfl ?_
                  refine jj_get (v := .ref (q 5)) X d_mo_arrive_162 165 rfl i_mo 9 f_mo_23 0 rfl rfl (by decide) rfl rfl ?_
                  refine jj_iconst (v := 3) X d_mo_arrive_165 166 rfl (by decide) ?_
                  refine jj_iload X d_mo_arrive_166 168 rfl 5 rfl ?_
                  refine jj_imul X d_mo_arrive_168 169 rfl ?_
                  refine jj_topv (y := nI (3 * (A 15 k).toNatClampNeg)) (pk_mul 3 _) ?_
                  refine jj_iconst (v := 2) X d_mo_arrive_169 170 rfl (by decide) ?_
                  refine jj_iadd X d_mo_arrive_170 171 rfl ?_
                  refine jj_topv (y := nI (3 * (A 15 k).toNatClampNeg + 2)) (nI_add _ 2) ?_
                  refine jj_iconst (v := 0) X d_mo_arrive_171 172 rfl (by decide) ?_
                  refine jj_iast (ws' := mw cI cZ q ((ua (ua (ua (ua (ua A 0 (uz (A 0) 7 0)) 11 (upd (A 11) ((A 15 k).toNatClampNeg) y)) 12 (upd (A 12) ((A 15 k).toNatClampNeg) 0)) 17 (upd (A 17) k 2)) 20 (upd (A 20) k d)))) X d_mo_arrive_172 173 rfl 5 0 rfl rfl (vp_in_nI (by omega) (by omega)) (by rw [nI_clamp (by omega)]; exact congrArg (fun z => List.set (mw cI cZ q ((ua (ua (ua (ua A 0 (uz (A 0) 7 0)) 11 (upd (A 11) ((A 15 k).toNatClampNeg) y)) 17 (upd (A 17) k 2)) 20 (upd (A 20) k d)))) 5 (q 5, .inl (cI, 183, .inl z))) (mxu3_2 _ _)) ?_
                  refine jj_aload_n X d_mo_arrive_173 174 rfl 0 rfl ?_
                  refine jj_get (v := .ref (q 5)) X d_mo_arrive_174 177 rfl i_mo 9 f_mo_23 0 rfl rfl (by decide) rfl rfl ?_
                  refine jj_iconst (v := 3) X d_mo_arrive_177 178 rfl (by decide) ?_
                  refine jj_iload X d_mo_arrive_178 180 rfl 5 rfl ?_
                  refine jj_imul X d_mo_arrive_180 181 rfl ?_
                  refine jj_topv (y := nI (3 * (A 15 k).toNatClampNeg)) (pk_mul 3 _) ?_
                  refine jj_iconst (v := 1) X d_mo_arrive_181 182 rfl (by decide) ?_
                  refine jj_iadd X d_mo_arrive_182 183 rfl ?_
                  refine jj_topv (y := nI (3 * (A 15 k).toNatClampNeg + 1)) (nI_1 _) ?_
                  refine jj_iload X d_mo_arrive_183 185 rfl 4 rfl ?_
                  refine jj_if_eq X d_mo_arrive_185 202 188 (by decide) rfl (fun c185 => ?_) (fun c185 => ?_)
                  · exact absurd c185 (by decide)
                  · refine jj_aload_n X d_mo_arrive_188 189 rfl 0 rfl ?_
                    refine jj_get (v := .ref (q 7)) X d_mo_arrive_189 192 rfl i_mo 11 f_mo_29 0 rfl rfl (by decide) rfl rfl ?_
                    refine jj_iload X d_mo_arrive_192 194 rfl 5 rfl ?_
                    refine jj_zald (v := A 14 (A 15 k).toNatClampNeg) X d_mo_arrive_194 195 rfl 7 1 rfl rfl (by rw [← vp_nI (hrg.1 k)]; exact hrg.1 k) (ar_cl (by omega)) ?_
                    refine jj_if_eq X d_mo_arrive_195 202 198 (by decide) rfl (fun c195 => ?_) (fun c195 => ?_)
                    · refine jj_aload_n X d_mo_arrive_202 203 rfl 0 rfl ?_
                      refine jj_get (v := .ref (q 5)) X d_mo_arrive_203 206 rfl i_mo 9 f_mo_23 0 rfl rfl (by decide) rfl rfl ?_
                      refine jj_iconst (v := 3) X d_mo_arrive_206 207 rfl (by decide) ?_
                      refine jj_iload X d_mo_arrive_207 209 rfl 5 rfl ?_
                      refine jj_imul X d_mo_arrive_209 210 rfl ?_
                      refine jj_topv (y := nI (3 * (A 15 k).toNatClampNeg)) (pk_mul 3 _) ?_
                      refine jj_iconst (v := 1) X d_mo_arrive_210 211 rfl (by decide) ?_
                      refine jj_iadd X d_mo_arrive_211 212 rfl ?_
                      refine jj_topv (y := nI (3 * (A 15 k).toNatClampNeg + 1)) (nI_1 _) ?_
                      refine jj_iald (v := A 10 (A 15 k).toNatClampNeg) X d_mo_arrive_212 213 rfl 5 0 rfl rfl (vp_in_nI (by omega) (by omega)) ((ar_cl (by omega)).trans (mxr3_1 _)) ?_
                      refine jj_iast (ws' := mw cI cZ q ((ua (ua (ua (ua (ua (ua A 0 (uz (A 0) 7 0)) 10 (upd (A 10) ((A 15 k).toNatClampNeg) (A 10 (A 15 k).toNatClampNeg))) 11 (upd (A 11) ((A 15 k).toNatClampNeg) y)) 12 (upd (A 12) ((A 15 k).toNatClampNeg) 0)) 17 (upd (A 17) k 2)) 20 (upd (A 20) k d)))) X d_mo_arrive_213 214 rfl 5 0 rfl rfl (vp_in_nI (by omega) (by omega)) (by rw [nI_clamp (by omega)]; exact congrArg (fun z => List.set (mw cI cZ q ((ua (ua (ua (ua (ua A 0 (uz (A 0) 7 0)) 11 (upd (A 11) ((A 15 k).toNatClampNeg) y)) 12 (upd (A 12) ((A 15 k).toNatClampNeg) 0)) 17 (upd (A 17) k 2)) 20 (upd (A 20) k d)))) 5 (q 5, .inl (cI, 183, .inl z))) (mxu3_1 _ _)) ?_
                      refine jj_iload X d_mo_arrive_214 216 rfl 4 rfl ?_
                      refine jj_if_eq X d_mo_arrive_216 223 219 (by decide) rfl (fun c216 => ?_) (fun c216 => ?_)
                      · exact absurd c216 (by decide)
                      · refine jj_iconst (v := 1) X d_mo_arrive_219 220 rfl (by decide) ?_
                        refine jj_goto X d_mo_arrive_220 224 (by decide) ?_
                        exact jj_iret X hr hlk d_mo_arrive_224 (⟨by simp [s_arrM, okA, uwC, nI_clamp (show k < 2 ^ 31 by omega), c10, c18, c25, c40, c55, c70, c97, c195], by simp [s_arrM, okA, uwC, nI_clamp (show k < 2 ^ 31 by omega), c10, c18, c25, c40, c55, c70, c97, c195]⟩)
                    · refine jj_iload_n X d_mo_arrive_198 199 rfl 2 rfl ?_
                      refine jj_goto X d_mo_arrive_199 213 (by decide) ?_
                      refine jj_iast (ws' := mw cI cZ q ((ua (ua (ua (ua (ua (ua A 0 (uz (A 0) 7 0)) 10 (upd (A 10) ((A 15 k).toNatClampNeg) y)) 11 (upd (A 11) ((A 15 k).toNatClampNeg) y)) 12 (upd (A 12) ((A 15 k).toNatClampNeg) 0)) 17 (upd (A 17) k 2)) 20 (upd (A 20) k d)))) X d_mo_arrive_213 214 rfl 5 0 rfl rfl (vp_in_nI (by omega) (by omega)) (by rw [nI_clamp (by omega)]; exact congrArg (fun z => List.set (mw cI cZ q ((ua (ua (ua (ua (ua A 0 (uz (A 0) 7 0)) 11 (upd (A 11) ((A 15 k).toNatClampNeg) y)) 12 (upd (A 12) ((A 15 k).toNatClampNeg) 0)) 17 (upd (A 17) k 2)) 20 (upd (A 20) k d)))) 5 (q 5, .inl (cI, 183, .inl z))) (mxu3_1 _ _)) ?_
                      refine jj_iload X d_mo_arrive_214 216 rfl 4 rfl ?_
                      refine jj_if_eq X d_mo_arrive_216 223 219 (by decide) rfl (fun c216 => ?_) (fun c216 => ?_)
                      · exact absurd c216 (by decide)
                      · refine jj_iconst (v := 1) X d_mo_arrive_219 220 rfl (by decide) ?_
                        refine jj_goto X d_mo_arrive_220 224 (by decide) ?_
                        exact jj_iret X hr hlk d_mo_arrive_224 (⟨by simp [s_arrM, okA, uwC, nI_clamp (show k < 2 ^ 31 by omega), c10, c18, c25, c40, c55, c70, c97, c195], by simp [s_arrM, okA, uwC, nI_clamp (show k < 2 ^ 31 by omega), c10, c18, c25, c40, c55, c70, c97, c195]⟩)
            · refine jj_iconst (v := 0) X d_mo_arrive_73 74 rfl (by decide) ?_
              exact jj_iret X hr hlk d_mo_arrive_74 (⟨by simp [s_arrM, okA, uwC, nI_clamp (show k < 2 ^ 31 by omega), *], by simp [s_arrM, okA, uwC, nI_clamp (show k < 2 ^ 31 by omega), *]; rfl⟩)
