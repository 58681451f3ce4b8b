set_option maxRecDepth 100000 in
set_option maxHeartbeats 4000000 in
theorem c_ld_begin (l : Launch) (D : va_G) (cI cZ : ClassId) (q : Nat → Nat) (A : Rows) (n : Nat) (hn : A 0 5 = nI n) (hle : n < 60) : mt_I l D cls_ [(cI, .int), (cZ, .boolean)] nst_ y_ld_begin (Cond.code y_ld_begin b_ld_begin 1 (some .int) :: gt_) (rmd 0) [.ref (q 6)] (tw cI cZ q A) (fun r u => r = nI (n + 1) ∧ u = tw cI cZ q ((ua (ua A 0 (uz (A 0) 5 (nI (n + 1)))) 21 (upd (A 21) (n + 1) (A 21 n))))) := by
  refine mt_I_of (by decide) (Nat.le_of_ble_eq_true rfl) ?_
  intro p e s m below meth c AA X hr hlk
  refine jj_lve (lv' := [(0, .ref (q 6))]) rfl ?_
  refine jj_aload_n X d_ld_begin_0 1 rfl 0 rfl ?_
  refine jj_dup X d_ld_begin_1 2 rfl rfl ?_
  refine jj_get (v := .int (nI n)) X d_ld_begin_2 5 rfl i_ld 2 f_ld_18 6 rfl rfl (by decide) rfl (by rw [← hn]; rfl) ?_
  refine jj_iconst (v := 1) X d_ld_begin_5 6 rfl (by decide) ?_
  refine jj_iadd X d_ld_begin_6 7 rfl ?_
  refine jj_topv (y := nI (n + 1)) (nI_1 _) ?_
  refine jj_put (ty := .int) (ws' := tw cI cZ q ((ua A 0 (uz (A 0) 5 (nI (n + 1)))))) X d_ld_begin_7 10 rfl i_ld t_ld t_ld_ok n_ld 2 f_ld_18 6 rfl rfl (by decide) rfl rfl (by decide +kernel) rfl rfl (Nat.le_of_ble_eq_true rfl) rfl ?_
  refine jj_aload_n X d_ld_begin_10 11 rfl 0 rfl ?_
  refine jj_get (v := .ref (q 28)) X d_ld_begin_11 14 rfl i_ld 0 f_ld_9 6 rfl rfl (by decide) rfl rfl ?_
  refine jj_aload_n X d_ld_begin_14 15 rfl 0 rfl ?_
  refine jj_get (v := .int (nI (n + 1))) X d_ld_begin_15 18 rfl i_ld 2 f_ld_18 6 rfl rfl (by decide) rfl rfl ?_
  refine jj_aload_n X d_ld_begin_18 19 rfl 0 rfl ?_
  refine jj_get (v := .ref (q 28)) X d_ld_begin_19 22 rfl i_ld 0 f_ld_9 6 rfl rfl (by decide) rfl rfl ?_
  refine jj_aload_n X d_ld_begin_22 23 rfl 0 rfl ?_
  refine jj_get (v := .int (nI (n + 1))) X d_ld_begin_23 26 rfl i_ld 2 f_ld_18 6 rfl rfl (by decide) rfl rfl ?_
  refine jj_iconst (v := 1) X d_ld_begin_26 27 rfl (by decide) ?_
  refine jj_isub X d_ld_begin_27 28 rfl ?_
  refine jj_topv (y := nI n) (nI_pred _) ?_
  refine jj_iald (v := A 21 n) X d_ld_begin_28 29 rfl 28 0 rfl rfl (vp_in_nI (by omega) (by omega)) (ar_cl (by omega)) ?_
  refine jj_iast (ws' := tw cI cZ q ((ua (ua A 0 (uz (A 0) 5 (nI (n + 1)))) 21 (upd (A 21) ((n + 1)) (A 21 n))))) X d_ld_begin_29 30 rfl 28 0 rfl rfl (vp_in_nI (by omega) (by omega)) (by rw [nI_clamp (by omega)]; rfl) ?_
  refine jj_aload_n X d_ld_begin_30 31 rfl 0 rfl ?_
  refine jj_get (v := .int (nI (n + 1))) X d_ld_begin_31 34 rfl i_ld 2 f_ld_18 6 rfl rfl (by decide) rfl rfl ?_
  exact jj_iret X hr hlk d_ld_begin_34 (⟨rfl, rfl⟩)
set_option maxRecDepth 100000 in
set_option maxHeartbeats 4000000 in
theorem c_ld_put (l : Launch) (D : va_G) (cI cZ : ClassId) (q : Nat → Nat) (A : Rows) (n e0 : Nat) (x : Int32) (hn : A 0 5 = nI n) (hle : n ≤ 60) (he : A 21 n = nI e0) (hel : e0 < 150) : mt_V l D cls_ [(cI, .int), (cZ, .boolean)] nst_ y_ld_put (Cond.code y_ld_put b_ld_put 2 none :: gt_) (rmd 0) [.ref (q 6), .int x] (tw cI cZ q A) (fun u => u = tw cI cZ q ((ua (ua A 21 (upd (A 21) n (nI (e0 + 1)))) 22 (upd (A 22) e0 x)))) := by
  refine mt_V_of (by decide) (Nat.le_of_ble_eq_true rfl) ?_
  intro p e s m below meth c AA X hr hlk hnm
  refine jj_lve (lv' := [(0, .ref (q 6)), (1, .int x)]) rfl ?_
  refine jj_aload_n X d_ld_put_0 1 rfl 0 rfl ?_
  refine jj_get (v := .ref (q 29)) X d_ld_put_1 4 rfl i_ld 1 f_ld_15 6 rfl rfl (by decide) rfl rfl ?_
  refine jj_aload_n X d_ld_put_4 5 rfl 0 rfl ?_
  refine jj_get (v := .ref (q 28)) X d_ld_put_5 8 rfl i_ld 0 f_ld_9 6 rfl rfl (by decide) rfl rfl ?_
  refine jj_aload_n X d_ld_put_8 9 rfl 0 rfl ?_
  refine jj_get (v := .int (nI n)) X d_ld_put_9 12 rfl i_ld 2 f_ld_18 6 rfl rfl (by decide) rfl (by rw [← hn]; rfl) ?_
  refine jj_iald (v := nI e0) X d_ld_put_12 13 rfl 28 0 rfl rfl (vp_in_nI (by omega) (by omega)) (by rw [nI_clamp (by omega)]; exact he) ?_
  refine jj_iload_n X d_ld_put_13 14 rfl 1 rfl ?_
  refine jj_iast (ws' := tw cI cZ q ((ua A 22 (upd (A 22) e0 x)))) X d_ld_put_14 15 rfl 29 0 rfl rfl (vp_in_nI (by omega) (by omega)) (by rw [nI_clamp (by omega)]; rfl) ?_
  refine jj_aload_n X d_ld_put_15 16 rfl 0 rfl ?_
  refine jj_get (v := .ref (q 28)) X d_ld_put_16 19 rfl i_ld 0 f_ld_9 6 rfl rfl (by decide) rfl rfl ?_
  refine jj_aload_n X d_ld_put_19 20 rfl 0 rfl ?_
  refine jj_get (v := .int (nI n)) X d_ld_put_20 23 rfl i_ld 2 f_ld_18 6 rfl rfl (by decide) rfl (by rw [← hn]; rfl) ?_
  refine jj_dup2 X d_ld_put_23 24 rfl rfl rfl ?_
  refine jj_iald (v := nI e0) X d_ld_put_24 25 rfl 28 0 rfl rfl (vp_in_nI (by omega) (by omega)) (by rw [nI_clamp (by omega)]; exact he) ?_
  refine jj_iconst (v := 1) X d_ld_put_25 26 rfl (by decide) ?_
  refine jj_iadd X d_ld_put_26 27 rfl ?_
  refine jj_topv (y := nI (e0 + 1)) (nI_1 _) ?_
  refine jj_iast (ws' := tw cI cZ q ((ua (ua A 21 (upd (A 21) n (nI (e0 + 1)))) 22 (upd (A 22) e0 x)))) X d_ld_put_27 28 rfl 28 0 rfl rfl (vp_in_nI (by omega) (by omega)) (by rw [nI_clamp (by omega)]; rfl) ?_
  exact jj_vret X hr hlk d_ld_put_28 (rfl)
set_option maxRecDepth 100000 in
set_option maxHeartbeats 4000000 in
theorem c_ld_size (l : Launch) (D : va_G) (cI cZ : ClassId) (q : Nat → Nat) (A : Rows) (k0 : Nat) (hk0 : k0 < 60) : mt_I l D cls_ [(cI, .int), (cZ, .boolean)] nst_ y_ld_size (Cond.code y_ld_size b_ld_size 2 (some .int) :: gt_) (rmd 0) [.ref (q 6), .int (nI (k0 + 1))] (tw cI cZ q A) (fun r u => r = A 21 (k0 + 1) - A 21 k0 ∧ u = tw cI cZ q A) := by
  refine mt_I_of (by decide) (Nat.le_of_ble_eq_true rfl) ?_
  intro p e s m below meth c AA X hr hlk
  refine jj_lve (lv' := [(0, .ref (q 6)), (1, .int (nI (k0 + 1)))]) rfl ?_
  refine jj_aload_n X d_ld_size_0 1 rfl 0 rfl ?_
  refine jj_get (v := .ref (q 28)) X d_ld_size_1 4 rfl i_ld 0 f_ld_9 6 rfl rfl (by decide) rfl rfl ?_
  refine jj_iload_n X d_ld_size_4 5 rfl 1 rfl ?_
  refine jj_iald (v := A 21 (k0 + 1)) X d_ld_size_5 6 rfl 28 0 rfl rfl (vp_in_nI (by omega) (by omega)) (ar_cl (by omega)) ?_
  refine jj_aload_n X d_ld_size_6 7 rfl 0 rfl ?_
  refine jj_get (v := .ref (q 28)) X d_ld_size_7 10 rfl i_ld 0 f_ld_9 6 rfl rfl (by decide) rfl rfl ?_
  refine jj_iload_n X d_ld_size_10 11 rfl 1 rfl ?_
  refine jj_iconst (v := 1) X d_ld_size_11 12 rfl (by decide) ?_
  refine jj_isub X d_ld_size_12 13 rfl ?_
  refine jj_topv (y := nI k0) (nI_pred _) ?_
  refine jj_iald (v := A 21 k0) X d_ld_size_13 14 rfl 28 0 rfl rfl (vp_in_nI (by omega) (by omega)) (ar_cl (by omega)) ?_
  refine jj_isub X d_ld_size_14 15 rfl ?_
  exact jj_iret X hr hlk d_ld_size_15 (⟨rfl, rfl⟩)
set_option maxRecDepth 100000 in
set_option maxHeartbeats 4000000 in
theorem c_ld_slipAt (l : Launch) (D : va_G) (cI cZ : ClassId) (q : Nat → Nat) (A : Rows) (k0 : Nat) (i : Int32) (hk0 : k0 < 60) (hi : vp_in (A 21 k0 + i) 150) : mt_I l D cls_ [(cI, .int), (cZ, .boolean)] nst_ y_ld_slipAt (Cond.code y_ld_slipAt b_ld_slipAt 3 (some .int) :: gt_) (rmd 0) [.ref (q 6), .int (nI (k0 + 1)), .int i] (tw cI cZ q A) (fun r u => r = A 22 (A 21 k0 + i).toNatClampNeg ∧ u = tw cI cZ q A) := by
  refine mt_I_of (by decide) (Nat.le_of_ble_eq_true rfl) ?_
  intro p e s m below meth c AA X hr hlk
  refine jj_lve (lv' := [(0, .ref (q 6)), (1, .int (nI (k0 + 1))), (2, .int i)]) rfl ?_
  refine jj_aload_n X d_ld_slipAt_0 1 rfl 0 rfl ?_
  refine jj_get (v := .ref (q 29)) X d_ld_slipAt_1 4 rfl i_ld 1 f_ld_15 6 rfl rfl (by decide) rfl rfl ?_
  refine jj_aload_n X d_ld_slipAt_4 5 rfl 0 rfl ?_
  refine jj_get (v := .ref (q 28)) X d_ld_slipAt_5 8 rfl i_ld 0 f_ld_9 6 rfl rfl (by decide) rfl rfl ?_
  refine jj_iload_n X d_ld_slipAt_8 9 rfl 1 rfl ?_
  refine jj_iconst (v := 1) X d_ld_slipAt_9 10 rfl (by decide) ?_
  refine jj_isub X d_ld_slipAt_10 11 rfl ?_
  refine jj_topv (y := nI k0) (nI_pred _) ?_
  refine jj_iald (v := A 21 k0) X d_ld_slipAt_11 12 rfl 28 0 rfl rfl (vp_in_nI (by omega) (by omega)) (ar_cl (by omega)) ?_
  refine jj_iload_n X d_ld_slipAt_12 13 rfl 2 rfl ?_
  refine jj_iadd X d_ld_slipAt_13 14 rfl ?_
  refine jj_iald (v := A 22 ((A 21 k0) + i).toNatClampNeg) X d_ld_slipAt_14 15 rfl 29 0 rfl rfl (hi) (rfl) ?_
  exact jj_iret X hr hlk d_ld_slipAt_15 (⟨rfl, rfl⟩)
set_option maxRecDepth 100000 in
set_option maxHeartbeats 4000000 in
theorem c_tr_dueDay (l : Launch) (D : va_G) (cI cZ : ClassId) (q : Nat → Nat) (A : Rows) (x : Int32) (hrg : rgC A) (hx : vp_in x 151) : mt_I l D cls_ [(cI, .int), (cZ, .boolean)] nst_ y_tr_dueDay (Cond.code y_tr_dueDay b_tr_dueDay 2 (some .int) :: gt_) (rmd 0) [.ref (q 0), .int x] (tw cI cZ q A) (fun r u => r = duC A x ∧ u = tw cI cZ q A) := by
  refine mt_I_of (by decide) (Nat.le_of_ble_eq_true rfl) ?_
  intro p e s m below meth c AA X hr hlk
  refine jj_lve (lv' := [(0, .ref (q 0)), (1, .int x)]) rfl ?_
  refine jj_aload_n X d_tr_dueDay_0 1 rfl 0 rfl ?_
  refine jj_get (v := .ref (q 5)) X d_tr_dueDay_1 4 rfl i_tr 3 f_tr_33 0 rfl rfl (by decide) rfl rfl ?_
  refine jj_get (v := .ref (q 26)) X d_tr_dueDay_4 7 rfl i_sl 4 f_tr_171 5 rfl rfl (by decide) rfl rfl ?_
  refine jj_iload_n X d_tr_dueDay_7 8 rfl 1 rfl ?_
  refine jj_iald (v := A 19 x.toNatClampNeg) X d_tr_dueDay_8 9 rfl 26 0 rfl rfl (by assumption) (rfl) ?_
  refine jj_aload_n X d_tr_dueDay_9 10 rfl 0 rfl ?_
  refine jj_get (v := .ref (q 2)) X d_tr_dueDay_10 13 rfl i_tr 1 f_tr_19 0 rfl rfl (by decide) rfl rfl ?_
  refine jj_get (v := .ref (q 12)) X d_tr_dueDay_13 16 rfl i_ro 3 f_tr_212 2 rfl rfl (by decide) rfl rfl ?_
  refine jj_aload_n X d_tr_dueDay_16 17 rfl 0 rfl ?_
  refine jj_get (v := .ref (q 5)) X d_tr_dueDay_17 20 rfl i_tr 3 f_tr_33 0 rfl rfl (by decide) rfl rfl ?_
  refine jj_get (v := .ref (q 23)) X d_tr_dueDay_20 23 rfl i_sl 1 f_tr_174 5 rfl rfl (by decide) rfl rfl ?_
  refine jj_iload_n X d_tr_dueDay_23 24 rfl 1 rfl ?_
  refine jj_iald (v := A 16 x.toNatClampNeg) X d_tr_dueDay_24 25 rfl 23 0 rfl rfl (by assumption) (rfl) ?_
  refine jj_iald (v := A 5 (A 16 x.toNatClampNeg).toNatClampNeg) X d_tr_dueDay_25 26 rfl 12 0 rfl rfl (hrg.2.1 _) (rfl) ?_
  refine jj_iadd X d_tr_dueDay_26 27 rfl ?_
  exact jj_iret X hr hlk d_tr_dueDay_27 (⟨rfl, rfl⟩)
set_option maxRecDepth 100000 in
set_option maxHeartbeats 4000000 in
theorem c_tr_isBefore (l : Launch) (D : va_G) (cI cZ : ClassId) (q : Nat → Nat) (A : Rows) (x y : Int32) (hrg : rgC A) (hx : vp_in x 151) (hy : vp_in y 151) : mt_I l D cls_ [(cI, .int), (cZ, .boolean)] nst_ y_tr_isBefore (Cond.code y_tr_isBefore b_tr_isBefore 4 (some .boolean) :: gt_) (rmd 0) [.ref (q 0), .int x, .int y] (tw cI cZ q A) (fun r u => r = bfI A x y ∧ u = tw cI cZ q A) := by
  refine mt_I_of (by decide) (Nat.le_of_ble_eq_true rfl) ?_
  intro p e s m below meth c AA X hr hlk
  refine jj_lve (lv' := [(0, .ref (q 0)), (1, .int x), (2, .int y)]) rfl ?_
  refine jj_aload_n X d_tr_isBefore_0 1 rfl 0 rfl ?_
  refine jj_get (v := .ref (q 4)) X d_tr_isBefore_1 4 rfl i_tr 2 f_tr_26 0 rfl rfl (by decide) rfl rfl ?_
  refine jj_get (v := .ref (q 20)) X d_tr_isBefore_4 7 rfl i_cp 3 f_tr_94 4 rfl rfl (by decide) rfl rfl ?_
  refine jj_aload_n X d_tr_isBefore_7 8 rfl 0 rfl ?_
  refine jj_get (v := .ref (q 5)) X d_tr_isBefore_8 11 rfl i_tr 3 f_tr_33 0 rfl rfl (by decide) rfl rfl ?_
  refine jj_get (v := .ref (q 22)) X d_tr_isBefore_11 14 rfl i_sl 0 f_tr_124 5 rfl rfl (by decide) rfl rfl ?_
  refine jj_iload_n X d_tr_isBefore_14 15 rfl 1 rfl ?_
  refine jj_iald (v := A 15 x.toNatClampNeg) X d_tr_isBefore_15 16 rfl 22 0 rfl rfl (by assumption) (rfl) ?_
  refine jj_zald (v := A 13 (A 15 x.toNatClampNeg).toNatClampNeg) X d_tr_isBefore_16 17 rfl 20 1 rfl rfl (hrg.1 _) (rfl) ?_
  refine jj_istore_n (lv' := [(0, .ref (q 0)), (1, .int x), (2, .int y), (3, .int (A 13 (A 15 x.toNatClampNeg).toNatClampNeg))]) X d_tr_isBefore_17 18 rfl (by decide) rfl rfl ?_
  refine jj_iload_n X d_tr_isBefore_18 19 rfl 3 rfl ?_
  refine jj_aload_n X d_tr_isBefore_19 20 rfl 0 rfl ?_
  refine jj_get (v := .ref (q 4)) X d_tr_isBefore_20 23 rfl i_tr 2 f_tr_26 0 rfl rfl (by decide) rfl rfl ?_
  refine jj_get (v := .ref (q 20)) X d_tr_isBefore_23 26 rfl i_cp 3 f_tr_94 4 rfl rfl (by decide) rfl rfl ?_
  refine jj_aload_n X d_tr_isBefore_26 27 rfl 0 rfl ?_
  refine jj_get (v := .ref (q 5)) X d_tr_isBefore_27 30 rfl i_tr 3 f_tr_33 0 rfl rfl (by decide) rfl rfl ?_
  refine jj_get (v := .ref (q 22)) X d_tr_isBefore_30 33 rfl i_sl 0 f_tr_124 5 rfl rfl (by decide) rfl rfl ?_
  refine jj_iload_n X d_tr_isBefore_33 34 rfl 2 rfl ?_
  refine jj_iald (v := A 15 y.toNatClampNeg) X d_tr_isBefore_34 35 rfl 22 0 rfl rfl (by assumption) (rfl) ?_
  refine jj_zald (v := A 13 (A 15 y.toNatClampNeg).toNatClampNeg) X d_tr_isBefore_35 36 rfl 20 1 rfl rfl (hrg.1 _) (rfl) ?_
  refine jj_icmp_eq X d_tr_isBefore_36 41 39 (by decide) rfl (fun c36 => ?_) (fun c36 => ?_)
  · refine jj_aload_n X d_tr_isBefore_41 42 rfl 0 rfl ?_
    refine jj_get (v := .ref (q 5)) X d_tr_isBefore_42 45 rfl i_tr 3 f_tr_33 0 rfl rfl (by decide) rfl rfl ?_
    refine jj_get (v := .ref (q 26)) X d_tr_isBefore_45 48 rfl i_sl 4 f_tr_171 5 rfl rfl (by decide) rfl rfl ?_
    refine jj_iload_n X d_tr_isBefore_48 49 rfl 1 rfl ?_
    refine jj_iald (v := A 19 x.toNatClampNeg) X d_tr_isBefore_49 50 rfl 26 0 rfl rfl (by assumption) (rfl) ?_
    refine jj_aload_n X d_tr_isBefore_50 51 rfl 0 rfl ?_
    refine jj_get (v := .ref (q 5)) X d_tr_isBefore_51 54 rfl i_tr 3 f_tr_33 0 rfl rfl (by decide) rfl rfl ?_
    refine jj_get (v := .ref (q 26)) X d_tr_isBefore_54 57 rfl i_sl 4 f_tr_171 5 rfl rfl (by decide) rfl rfl ?_
    refine jj_iload_n X d_tr_isBefore_57 58 rfl 2 rfl ?_
    refine jj_iald (v := A 19 y.toNatClampNeg) X d_tr_isBefore_58 59 rfl 26 0 rfl rfl (by assumption) (rfl) ?_
    refine jj_icmp_eq X d_tr_isBefore_59 89 62 (by decide) rfl (fun c59 => ?_) (fun c59 => ?_)
    · refine jj_iload_n X d_tr_isBefore_89 90 rfl 1 rfl ?_
      refine jj_iload_n X d_tr_isBefore_90 91 rfl 2 rfl ?_
      refine jj_icmp_ge X d_tr_isBefore_91 98 94 (by decide) rfl (fun c91 => ?_) (fun c91 => ?_)
      · have c91 := Int32.not_lt.mpr c91
        refine jj_iconst (v := 0) X d_tr_isBefore_98 99 rfl (by decide) ?_
        exact jj_zret X hr hlk d_tr_isBefore_99 (rfl) (⟨by simp [bfI, b2, *], rfl⟩)
      · have c91 := Int32.not_le.mp c91
        refine jj_iconst (v := 1) X d_tr_isBefore_94 95 rfl (by decide) ?_
        refine jj_goto X d_tr_isBefore_95 99 (by decide) ?_
        exact jj_zret X hr hlk d_tr_isBefore_99 (rfl) (⟨by simp [bfI, b2, *], rfl⟩)
    · refine jj_aload_n X d_tr_isBefore_62 63 rfl 0 rfl ?_
      refine jj_get (v := .ref (q 5)) X d_tr_isBefore_63 66 rfl i_tr 3 f_tr_33 0 rfl rfl (by decide) rfl rfl ?_
      refine jj_get (v := .ref (q 26)) X d_tr_isBefore_66 69 rfl i_sl 4 f_tr_171 5 rfl rfl (by decide) rfl rfl ?_
      refine jj_iload_n X d_tr_isBefore_69 70 rfl 1 rfl ?_
      refine jj_iald (v := A 19 x.toNatClampNeg) X d_tr_isBefore_70 71 rfl 26 0 rfl rfl (by assumption) (rfl) ?_
      refine jj_aload_n X d_tr_isBefore_71 72 rfl 0 rfl ?_
      refine jj_get (v := .ref (q 5)) X d_tr_isBefore_72 75 rfl i_tr 3 f_tr_33 0 rfl rfl (by decide) rfl rfl ?_
      refine jj_get (v := .ref (q 26)) X d_tr_isBefore_75 78 rfl i_sl 4 f_tr_171 5 rfl rfl (by decide) rfl rfl ?_
      refine jj_iload_n X d_tr_isBefore_78 79 rfl 2 rfl ?_
      refine jj_iald (v := A 19 y.toNatClampNeg) X d_tr_isBefore_79 80 rfl 26 0 rfl rfl (by assumption) (rfl) ?_
      refine jj_icmp_ge X d_tr_isBefore_80 87 83 (by decide) rfl (fun c80 => ?_) (fun c80 => ?_)
      · have c80 := Int32.not_lt.mpr c80
        refine jj_iconst (v := 0) X d_tr_isBefore_87 88 rfl (by decide) ?_
        exact jj_zret X hr hlk d_tr_isBefore_88 (rfl) (⟨by simp [bfI, b2, *], rfl⟩)
      · have c80 := Int32.not_le.mp c80
        refine jj_iconst (v := 1) X d_tr_isBefore_83 84 rfl (by decide) ?_
        refine jj_goto X d_tr_isBefore_84 88 (by decide) ?_
        exact jj_zret X hr hlk d_tr_isBefore_88 (rfl) (⟨by simp [bfI, b2, *], rfl⟩)
  · refine jj_iload_n X d_tr_isBefore_39 40 rfl 3 rfl ?_
    exact jj_zret X hr hlk d_tr_isBefore_40 (isB_nar (hrg.2.2.2.2.2.2.1 _)) (⟨by simp [bfI, b2, *], rfl⟩)
set_option maxRecDepth 100000 in
set_option maxHeartbeats 4000000 in
theorem c_tr_open (l : Launch) (D : va_G) (cI cZ : ClassId) (q : Nat → Nat) (A : Rows) (nP : Nat) (x : Int32) (on : Bool) (hnP : A 0 0 = nI nP) (hlP : nP ≤ 12) (hrg : rgC A) : mt_I l D cls_ [(cI, .int), (cZ, .boolean)] nst_ y_tr_open (Cond.code y_tr_open b_tr_open 4 (some .boolean) :: gt_) (rmd 1) [.ref (q 0), .int x, .int (b2 on)] (tw cI cZ q A) (fun r u => r = (if hN (nI nP) x = true then A 1 x.toNatClampNeg else 0) ∧ u = tw cI cZ q (if hN (nI nP) x = true then (ua A 1 (upd (A 1) x.toNatClampNeg (b2 on))) else A)) := by
  refine mt_I_of (by decide) (Nat.le_of_ble_eq_true rfl) ?_
  intro p e s m below meth c AA X hr hlk
  refine jj_lve (lv' := [(0, .ref (q 0)), (1, .int x), (2, .int (b2 on))]) rfl ?_
  refine jj_aload_n X d_tr_open_0 1 rfl 0 rfl ?_
  refine jj_get (v := .ref (q 1)) X d_tr_open_1 4 rfl i_tr 0 f_tr_10 0 rfl rfl (by decide) rfl rfl ?_
  refine jj_iload_n X d_tr_open_4 5 rfl 1 rfl ?_
  refine jj_callV0 (st := []) X d_tr_open_5 8 rfl (c_pl_has l D cI cZ q A x) g_tr_63 ⟨rfl, w_pl_has⟩ ⟨(Nat.le_of_ble_eq_true rfl), (Nat.le_of_ble_eq_true rfl)⟩ rfl 1 rfl rfl rfl (Nat.le_of_ble_eq_true rfl) ⟨rfl, rfl⟩ ⟨Nat.zero_le _, Nat.zero_le _⟩ (fun r u hu => ?_)
  obtain ⟨rfl, rfl⟩ := hu
  rw [hnP]
  refine jj_if_ne X d_tr_open_8 13 11 (by decide) rfl (fun c8 => ?_) (fun c8 => ?_)
  · have c8 := b2_t c8
    have hx : vp_in x 12 := hN_in c8 (by rw [nI_toInt (by omega)]; omega)
    refine jj_aload_n X d_tr_open_13 14 rfl 0 rfl ?_
    refine jj_get (v := .ref (q 1)) X d_tr_open_14 17 rfl i_tr 0 f_tr_10 0 rfl rfl (by decide) rfl rfl ?_
    refine jj_get (v := .ref (q 8)) X d_tr_open_17 20 rfl i_pl 0 f_tr_67 1 rfl rfl (by decide) rfl rfl ?_
    refine jj_iload_n X d_tr_open_20 21 rfl 1 rfl ?_
    refine jj_zald (v := A 1 x.toNatClampNeg) X d_tr_open_21 22 rfl 8 1 rfl rfl (by assumption) (rfl) ?_
    refine jj_istore_n (lv' := [(0, .ref (q 0)), (1, .int x), (2, .int (b2 on)), (3, .int (A 1 x.toNatClampNeg))]) X d_tr_open_22 23 rfl (by decide) rfl rfl ?_
    refine jj_aload_n X d_tr_open_23 24 rfl 0 rfl ?_
    refine jj_get (v := .ref (q 1)) X d_tr_open_24 27 rfl i_tr 0 f_tr_10 0 rfl rfl (by decide) rfl rfl ?_
    refine jj_get (v := .ref (q 8)) X d_tr_open_27 30 rfl i_pl 0 f_tr_67 1 rfl rfl (by decide) rfl rfl ?_
    refine jj_iload_n X d_tr_open_30 31 rfl 1 rfl ?_
    refine jj_iload_n X d_tr_open_31 32 rfl 2 rfl ?_
    refine jj_zast (ws' := tw cI cZ q ((ua A 1 (upd (A 1) x.toNatClampNeg (b2 on))))) X d_tr_open_32 33 rfl 8 1 rfl rfl (by assumption) (b2_vp _) rfl ?_
    refine jj_iload_n X d_tr_open_33 34 rfl 3 rfl ?_
    exact jj_zret X hr hlk d_tr_open_34 (isB_nar (hrg.2.2.2.2.2.1 _)) (⟨by simp [*], by simp [*]⟩)
  · have c8 := b2_f c8
    refine jj_iconst (v := 0) X d_tr_open_11 12 rfl (by decide) ?_
    exact jj_zret X hr hlk d_tr_open_12 (rfl) (⟨by simp [*], by simp [*]⟩)
set_option maxRecDepth 100000 in
set_option maxHeartbeats 4000000 in
theorem c_tr_route (l : Launch) (D : va_G) (cI cZ : ClassId) (q : Nat → Nat) (A : Rows) (nP : Nat) (nR : Nat) (a1 a2 a3 a4 a5 : Int32) (hnP : A 0 0 = nI nP) (hlP : nP ≤ 12) (hnR : A 0 1 = nI nR) (hlR : nR ≤ 40) : mt_I l D cls_ [(cI, .int), (cZ, .boolean)] nst_ y_tr_route (Cond.code y_tr_route b_tr_route 6 (some .int) :: gt_) (rmd 1) [.ref (q 0), .int a1, .int a2, .int a3, .int a4, .int a5] (tw cI cZ q A) (fun r u => r = (if (hN (nI nP) a1 && hN (nI nP) a2 && !decide (a1 = a2) && !decide (a3 < 1) && !decide (127 < a3) && !decide (a4 < 0) && decide (a4 ≤ 30) && !decide (a5 < 1) && decide (a5 ≤ 99) && !decide (nR = 40)) = true then nI nR else -1) ∧ u = tw cI cZ q (if (hN (nI nP) a1 && hN (nI nP) a2 && !decide (a1 = a2) && !decide (a3 < 1) && !decide (127 < a3) && !decide (a4 < 0) && decide (a4 ≤ 30) && !decide (a5 < 1) && decide (a5 ≤ 99) && !decide (nR = 40)) = true then (ua (ua (ua (ua (ua (ua (ua A 0 (uz (A 0) 1 (nI (nR + 1)))) 2 (upd (A 2) nR a1)) 3 (upd (A 3) nR a2)) 4 (upd (A 4) nR a3)) 5 (upd (A 5) nR a4)) 6 (upd (A 6) nR a5)) 7 (upd (A 7) nR (-1))) else A)) := by
  refine mt_I_of (by decide) (Nat.le_of_ble_eq_true rfl) ?_
  intro p e s m below meth c AA X hr hlk
  refine jj_lve (lv' := [(0, .ref (q 0)), (1, .int a1), (2, .int a2), (3, .int a3), (4, .int a4), (5, .int a5)]) rfl ?_
  refine jj_aload_n X d_tr_route_0 1 rfl 0 rfl ?_
  refine jj_get (v := .ref (q 1)) X d_tr_route_1 4 rfl i_tr 0 f_tr_10 0 rfl rfl (by decide) rfl rfl ?_
  refine jj_iload_n X d_tr_route_4 5 rfl 1 rfl ?_
  refine jj_callV0 (st := []) X d_tr_route_5 8 rfl (c_pl_has l D cI cZ q A a1) g_tr_63 ⟨rfl, w_pl_has⟩ ⟨(Nat.le_of_ble_eq_true rfl), (Nat.le_of_ble_eq_true rfl)⟩ rfl 1 rfl rfl rfl (Nat.le_of_ble_eq_true rfl) ⟨rfl, rfl⟩ ⟨Nat.zero_le _, Nat.zero_le _⟩ (fun r u hu => ?_)
  obtain ⟨rfl, rfl⟩ := hu
  rw [hnP]
  refine jj_if_eq X d_tr_route_8 27 11 (by decide) rfl (fun c8 => ?_) (fun c8 => ?_)
  · have c8 := b2_f c8
    refine jj_iconst (v := -1) X d_tr_route_27 28 rfl (by decide) ?_
    exact jj_iret X hr hlk d_tr_route_28 (⟨by simp [*], by simp [*]⟩)
  · have c8 := b2_t c8
    refine jj_aload_n X d_tr_route_11 12 rfl 0 rfl ?_
    refine jj_get (v := .ref (q 1)) X d_tr_route_12 15 rfl i_tr 0 f_tr_10 0 rfl rfl (by decide) rfl rfl ?_
    refine jj_iload_n X d_tr_route_15 16 rfl 2 rfl ?_
    refine jj_callV0 (st := []) X d_tr_route_16 19 rfl (c_pl_has l D cI cZ q A a2) g_tr_63 ⟨rfl, w_pl_has⟩ ⟨(Nat.le_of_ble_eq_true rfl), (Nat.le_of_ble_eq_true rfl)⟩ rfl 1 rfl rfl rfl (Nat.le_of_ble_eq_true rfl) ⟨rfl, rfl⟩ ⟨Nat.zero_le _, Nat.zero_le _⟩ (fun r u hu => ?_)
    obtain ⟨rfl, rfl⟩ := hu
    rw [hnP]
    refine jj_if_eq X d_tr_route_19 27 22 (by decide) rfl (fun c19 => ?_) (fun c19 => ?_)
    · have c19 := b2_f c19
      refine jj_iconst (v := -1) X d_tr_route_27 28 rfl (by decide) ?_
      exact jj_iret X hr hlk d_tr_route_28 (⟨by simp [*], by simp [*]⟩)
    · have c19 := b2_t c19
      refine jj_iload_n X d_tr_route_22 23 rfl 1 rfl ?_
      refine jj_iload_n X d_tr_route_23 24 rfl 2 rfl ?_
      refine jj_icmp_ne X d_tr_route_24 29 27 (by decide) rfl (fun c24 => ?_) (fun c24 => ?_)
      · refine jj_iload_n X d_tr_route_29 30 rfl 3 rfl ?_
        refine jj_iconst (v := 1) X d_tr_route_30 31 rfl (by decide) ?_
        refine jj_icmp_lt X d_tr_route_31 52 34 (by decide) rfl (fun c31 => ?_) (fun c31 => ?_)
        · refine jj_iconst (v := -1) X d_tr_route_52 53 rfl (by decide) ?_
          exact jj_iret X hr hlk d_tr_route_53 (⟨by simp [*], by simp [*]⟩)
        · refine jj_iload_n X d_tr_route_34 35 rfl 3 rfl ?_
          refine jj_bipush (v := 127) X d_tr_route_35 37 rfl (by decide) ?_
          refine jj_icmp_gt X d_tr_route_37 52 40 (by decide) rfl (fun c37 => ?_) (fun c37 => ?_)
          · refine jj_iconst (v := -1) X d_tr_route_52 53 rfl (by decide) ?_
            exact jj_iret X hr hlk d_tr_route_53 (⟨by simp [*], by simp [*]⟩)
          · refine jj_iload X d_tr_route_40 42 rfl 4 rfl ?_
            refine jj_if_lt X d_tr_route_42 52 45 (by decide) rfl (fun c42 => ?_) (fun c42 => ?_)
            · refine jj_iconst (v := -1) X d_tr_route_52 53 rfl (by decide) ?_
              exact jj_iret X hr hlk d_tr_route_53 (⟨by simp [*], by simp [*]⟩)
            · refine jj_iload X d_tr_route_45 47 rfl 4 rfl ?_
              refine jj_bipush (v := 30) X d_tr_route_47 49 rfl (by decide) ?_
              refine jj_icmp_le X d_tr_route_49 54 52 (by decide) rfl (fun c49 => ?_) (fun c49 => ?_)
              · refine jj_iload X d_tr_route_54 56 rfl 5 rfl ?_
                refine jj_iconst (v := 1) X d_tr_route_56 57 rfl (by decide) ?_
                refine jj_icmp_lt X d_tr_route_57 67 60 (by decide) rfl (fun c57 => ?_) (fun c57 => ?_)
                · refine jj_iconst (v := -1) X d_tr_route_67 68 rfl (by decide) ?_
                  exact jj_iret X hr hlk d_tr_route_68 (⟨by simp [*], by simp [*]⟩)
                · refine jj_iload X d_tr_route_60 62 rfl 5 rfl ?_
                  refine jj_bipush (v := 99) X d_tr_route_62 64 rfl (by decide) ?_
                  refine jj_icmp_le X d_tr_route_64 69 67 (by decide) rfl (fun c64 => ?_) (fun c64 => ?_)
                  · refine jj_aload_n X d_tr_route_69 70 rfl 0 rfl ?_
                    refine jj_get (v := .ref (q 2)) X d_tr_route_70 73 rfl i_tr 1 f_tr_19 0 rfl rfl (by decide) rfl rfl ?_
                    refine jj_iload_n X d_tr_route_73 74 rfl 1 rfl ?_
                    refine jj_iload_n X d_tr_route_74 75 rfl 2 rfl ?_
                    refine jj_iload_n X d_tr_route_75 76 rfl 3 rfl ?_
                    refine jj_iload X d_tr_route_76 78 rfl 4 rfl ?_
                    refine jj_iload X d_tr_route_78 80 rfl 5 rfl ?_
                    refine jj_callV0 (st := []) X d_tr_route_80 83 rfl (c_ro_add l D cI cZ q A nR a1 a2 a3 a4 a5 hnR hlR) g_tr_71 ⟨rfl, w_ro_add⟩ ⟨(Nat.le_of_ble_eq_true rfl), (Nat.le_of_ble_eq_true rfl)⟩ rfl 2 rfl rfl rfl (Nat.le_of_ble_eq_true rfl) ⟨rfl, rfl⟩ ⟨Nat.zero_le _, Nat.zero_le _⟩ (fun r u hu => ?_)
                    obtain ⟨rfl, rfl⟩ := hu
                    exact jj_iret X hr hlk d_tr_route_83 (⟨by by_cases e9 : nR = 40 <;> simp [*], by by_cases e9 : nR = 40 <;> simp [*]⟩)
                  · refine jj_iconst (v := -1) X d_tr_route_67 68 rfl (by decide) ?_
                    exact jj_iret X hr hlk d_tr_route_68 (⟨by simp [*], by simp [*]⟩)
              · refine jj_iconst (v := -1) X d_tr_route_52 53 rfl (by decide) ?_
                exact jj_iret X hr hlk d_tr_route_53 (⟨by simp [*], by simp [*]⟩)
      · refine jj_iconst (v := -1) X d_tr_route_27 28 rfl (by decide) ?_
        exact jj_iret X hr hlk d_tr_route_28 (⟨by simp [*], by simp [*]⟩)
set_option maxRecDepth 100000 in
set_option maxHeartbeats 4000000 in
theorem c_tr_priority (l : Launch) (D : va_G) (cI cZ : ClassId) (q : Nat → Nat) (A : Rows) (nC : Nat) (x : Int32) (on : Bool) (hnC : A 0 3 = nI nC) (hlC : nC ≤ 60) (hrg : rgC A) : mt_I l D cls_ [(cI, .int), (cZ, .boolean)] nst_ y_tr_priority (Cond.code y_tr_priority b_tr_priority 4 (some .boolean) :: gt_) (rmd 1) [.ref (q 0), .int x, .int (b2 on)] (tw cI cZ q A) (fun r u => r = (if h1 (nI nC) x = true then A 13 x.toNatClampNeg else 0) ∧ u = tw cI cZ q (if h1 (nI nC) x = true then (ua A 13 (upd (A 13) x.toNatClampNeg (b2 on))) else A)) := by
  refine mt_I_of (by decide) (Nat.le_of_ble_eq_true rfl) ?_
  intro p e s m below meth c AA X hr hlk
  refine jj_lve (lv' := [(0, .ref (q 0)), (1, .int x), (2, .int (b2 on))]) rfl ?_
  refine jj_aload_n X d_tr_priority_0 1 rfl 0 rfl ?_
  refine jj_get (v := .ref (q 4)) X d_tr_priority_1 4 rfl i_tr 2 f_tr_26 0 rfl rfl (by decide) rfl rfl ?_
  refine jj_iload_n X d_tr_priority_4 5 rfl 1 rfl ?_
  refine jj_callV0 (st := []) X d_tr_priority_5 8 rfl (c_cp_has l D cI cZ q A x) g_tr_93 ⟨rfl, w_cp_has⟩ ⟨(Nat.le_of_ble_eq_true rfl), (Nat.le_of_ble_eq_true rfl)⟩ rfl 4 rfl rfl rfl (Nat.le_of_ble_eq_true rfl) ⟨rfl, rfl⟩ ⟨Nat.zero_le _, Nat.zero_le _⟩ (fun r u hu => ?_)
  obtain ⟨rfl, rfl⟩ := hu
  rw [hnC]
  refine jj_if_ne X d_tr_priority_8 13 11 (by decide) rfl (fun c8 => ?_) (fun c8 => ?_)
  · have c8 := b2_t c8
    have hx : vp_in x 61 := h1_in c8 (by rw [nI_toInt (by omega)]; omega)
    refine jj_aload_n X d_tr_priority_13 14 rfl 0 rfl ?_
    refine jj_get (v := .ref (q 4)) X d_tr_priority_14 17 rfl i_tr 2 f_tr_26 0 rfl rfl (by decide) rfl rfl ?_
    refine jj_get (v := .ref (q 20)) X d_tr_priority_17 20 rfl i_cp 3 f_tr_94 4 rfl rfl (by decide) rfl rfl ?_
    refine jj_iload_n X d_tr_priority_20 21 rfl 1 rfl ?_
    refine jj_zald (v := A 13 x.toNatClampNeg) X d_tr_priority_21 22 rfl 20 1 rfl rfl (by assumption) (rfl) ?_
    refine jj_istore_n (lv' := [(0, .ref (q 0)), (1, .int x), (2, .int (b2 on)), (3, .int (A 13 x.toNatClampNeg))]) X d_tr_priority_22 23 rfl (by decide) rfl rfl ?_
    refine jj_aload_n X d_tr_priority_23 24 rfl 0 rfl ?_
    refine jj_get (v := .ref (q 4)) X d_tr_priority_24 27 rfl i_tr 2 f_tr_26 0 rfl rfl (by decide) rfl rfl ?_
    refine jj_get (v := .ref (q 20)) X d_tr_priority_27 30 rfl i_cp 3 f_tr_94 4 rfl rfl (by decide) rfl rfl ?_
    refine jj_iload_n X d_tr_priority_30 31 rfl 1 rfl ?_
    refine jj_iload_n X d_tr_priority_31 32 rfl 2 rfl ?_
    refine jj_zast (ws' := tw cI cZ q ((ua A 13 (upd (A 13) x.toNatClampNeg (b2 on))))) X d_tr_priority_32 33 rfl 20 1 rfl rfl (by assumption) (b2_vp _) rfl ?_
    refine jj_iload_n X d_tr_priority_33 34 rfl 3 rfl ?_
    exact jj_zret X hr hlk d_tr_priority_34 (isB_nar (hrg.2.2.2.2.2.2.1 _)) (⟨by simp [*], by simp [*]⟩)
  · have c8 := b2_f c8
    refine jj_iconst (v := 0) X d_tr_priority_11 12 rfl (by decide) ?_
    exact jj_zret X hr hlk d_tr_priority_12 (rfl) (⟨by simp [*], by simp [*]⟩)
set_option maxRecDepth 100000 in
set_option maxHeartbeats 4000000 in
theorem c_tr_floats (l : Launch) (D : va_G) (cI cZ : ClassId) (q : Nat → Nat) (A : Rows) (nC : Nat) (x : Int32) (on : Bool) (hnC : A 0 3 = nI nC) (hlC : nC ≤ 60) (hrg : rgC A) : mt_I l D cls_ [(cI, .int), (cZ, .boolean)] nst_ y_tr_floats (Cond.code y_tr_floats b_tr_floats 4 (some .boolean) :: gt_) (rmd 1) [.ref (q 0), .int x, .int (b2 on)] (tw cI cZ q A) (fun r u => r = (if h1 (nI nC) x = true then A 14 x.toNatClampNeg else 0) ∧ u = tw cI cZ q (if h1 (nI nC) x = true then (ua A 14 (upd (A 14) x.toNatClampNeg (b2 on))) else A)) := by
  refine mt_I_of (by decide) (Nat.le_of_ble_eq_true rfl) ?_
  intro p e s m below meth c AA X hr hlk
  refine jj_lve (lv' := [(0, .ref (q 0)), (1, .int x), (2, .int (b2 on))]) rfl ?_
  refine jj_aload_n X d_tr_floats_0 1 rfl 0 rfl ?_
  refine jj_get (v := .ref (q 4)) X d_tr_floats_1 4 rfl i_tr 2 f_tr_26 0 rfl rfl (by decide) rfl rfl ?_
  refine jj_iload_n X d_tr_floats_4 5 rfl 1 rfl ?_
  refine jj_callV0 (st := []) X d_tr_floats_5 8 rfl (c_cp_has l D cI cZ q A x) g_tr_93 ⟨rfl, w_cp_has⟩ ⟨(Nat.le_of_ble_eq_true rfl), (Nat.le_of_ble_eq_true rfl)⟩ rfl 4 rfl rfl rfl (Nat.le_of_ble_eq_true rfl) ⟨rfl, rfl⟩ ⟨Nat.zero_le _, Nat.zero_le _⟩ (fun r u hu => ?_)
  obtain ⟨rfl, rfl⟩ := hu
  rw [hnC]
  refine jj_if_ne X d_tr_floats_8 13 11 (by decide) rfl (fun c8 => ?_) (fun c8 => ?_)
  · have c8 := b2_t c8
    have hx : vp_in x 61 := h1_in c8 (by rw [nI_toInt (by omega)]; omega)
    refine jj_aload_n X d_tr_floats_13 14 rfl 0 rfl ?_
    refine jj_get (v := .ref (q 4)) X d_tr_floats_14 17 rfl i_tr 2 f_tr_26 0 rfl rfl (by decide) rfl rfl ?_
    refine jj_get (v := .ref (q 21)) X d_tr_floats_17 20 rfl i_cp 4 f_tr_97 4 rfl rfl (by decide) rfl rfl ?_
    refine jj_iload_n X d_tr_floats_20 21 rfl 1 rfl ?_
    refine jj_zald (v := A 14 x.toNatClampNeg) X d_tr_floats_21 22 rfl 21 1 rfl rfl (by assumption) (rfl) ?_
    refine jj_istore_n (lv' := [(0, .ref (q 0)), (1, .int x), (2, .int (b2 on)), (3, .int (A 14 x.toNatClampNeg))]) X d_tr_floats_22 23 rfl (by decide) rfl rfl ?_
    refine jj_aload_n X d_tr_floats_23 24 rfl 0 rfl ?_
    refine jj_get (v := .ref (q 4)) X d_tr_floats_24 27 rfl i_tr 2 f_tr_26 0 rfl rfl (by decide) rfl rfl ?_
    refine jj_get (v := .ref (q 21)) X d_tr_floats_27 30 rfl i_cp 4 f_tr_97 4 rfl rfl (by decide) rfl rfl ?_
    refine jj_iload_n X d_tr_floats_30 31 rfl 1 rfl ?_
    refine jj_iload_n X d_tr_floats_31 32 rfl 2 rfl ?_
    refine jj_zast (ws' := tw cI cZ q ((ua A 14 (upd (A 14) x.toNatClampNeg (b2 on))))) X d_tr_floats_32 33 rfl 21 1 rfl rfl (by assumption) (b2_vp _) rfl ?_
    refine jj_iload_n X d_tr_floats_33 34 rfl 3 rfl ?_
    exact jj_zret X hr hlk d_tr_floats_34 (isB_nar (hrg.2.2.2.2.2.2.2 _)) (⟨by simp [*], by simp [*]⟩)
  · have c8 := b2_f c8
    refine jj_iconst (v := 0) X d_tr_floats_11 12 rfl (by decide) ?_
    exact jj_zret X hr hlk d_tr_floats_12 (rfl) (⟨by simp [*], by simp [*]⟩)
set_option maxRecDepth 100000 in
set_option maxHeartbeats 4000000 in
theorem c_tr_copy (l : Launch) (D : va_G) (cI cZ : ClassId) (q : Nat → Nat) (A : Rows) (nP : Nat) (nC : Nat) (x : Int32) (hnP : A 0 0 = nI nP) (hlP : nP ≤ 12) (hnC : A 0 3 = nI nC) (hlC : nC ≤ 60) : mt_I l D cls_ [(cI, .int), (cZ, .boolean)] nst_ y_tr_copy (Cond.code y_tr_copy b_tr_copy 2 (some .int) :: gt_) (rmd 1) [.ref (q 0), .int x] (tw cI cZ q A) (fun r u => r = (if hN (nI nP) x = true then (if nC = 60 then 0 else nI (nC + 1)) else 0) ∧ u = tw cI cZ q (if hN (nI nP) x = true then (if nC = 60 then A else (ua (ua (ua A 0 (uz (A 0) 3 (nI (nC + 1)))) 10 (upd (A 10) (nC + 1) x)) 11 (upd (A 11) (nC + 1) x))) else A)) := by
  refine mt_I_of (by decide) (Nat.le_of_ble_eq_true rfl) ?_
  intro p e s m below meth c AA X hr hlk
  refine jj_lve (lv' := [(0, .ref (q 0)), (1, .int x)]) rfl ?_
  refine jj_aload_n X d_tr_copy_0 1 rfl 0 rfl ?_
  refine jj_get (v := .ref (q 1)) X d_tr_copy_1 4 rfl i_tr 0 f_tr_10 0 rfl rfl (by decide) rfl rfl ?_
  refine jj_iload_n X d_tr_copy_4 5 rfl 1 rfl ?_
  refine jj_callV0 (st := []) X d_tr_copy_5 8 rfl (c_pl_has l D cI cZ q A x) g_tr_63 ⟨rfl, w_pl_has⟩ ⟨(Nat.le_of_ble_eq_true rfl), (Nat.le_of_ble_eq_true rfl)⟩ rfl 1 rfl rfl rfl (Nat.le_of_ble_eq_true rfl) ⟨rfl, rfl⟩ ⟨Nat.zero_le _, Nat.zero_le _⟩ (fun r u hu => ?_)
  obtain ⟨rfl, rfl⟩ := hu
  rw [hnP]
  refine jj_if_ne X d_tr_copy_8 13 11 (by decide) rfl (fun c8 => ?_) (fun c8 => ?_)
  · have c8 := b2_t c8
    refine jj_aload_n X d_tr_copy_13 14 rfl 0 rfl ?_
    refine jj_get (v := .ref (q 4)) X d_tr_copy_14 17 rfl i_tr 2 f_tr_26 0 rfl rfl (by decide) rfl rfl ?_
    refine jj_iload_n X d_tr_copy_17 18 rfl 1 rfl ?_
    refine jj_callV0 (st := []) X d_tr_copy_18 21 rfl (c_cp_add l D cI cZ q A nC x hnC hlC) g_tr_90 ⟨rfl, w_cp_add⟩ ⟨(Nat.le_of_ble_eq_true rfl), (Nat.le_of_ble_eq_true rfl)⟩ rfl 4 rfl rfl rfl (Nat.le_of_ble_eq_true rfl) ⟨rfl, rfl⟩ ⟨Nat.zero_le _, Nat.zero_le _⟩ (fun r u hu => ?_)
    obtain ⟨rfl, rfl⟩ := hu
    exact jj_iret X hr hlk d_tr_copy_21 (⟨by simp [*], by simp [*]⟩)
  · have c8 := b2_f c8
    refine jj_iconst (v := 0) X d_tr_copy_11 12 rfl (by decide) ?_
    exact jj_iret X hr hlk d_tr_copy_12 (⟨by simp [*], by simp [*]⟩)
set_option maxRecDepth 100000 in
set_option maxHeartbeats 4000000 in
theorem c_tr_skip (l : Launch) (D : va_G) (cI cZ : ClassId) (q : Nat → Nat) (A : Rows) (nR : Nat) (nX : Nat) (x d : Int32) (out : Bool) (hnR : A 0 1 = nI nR) (hlR : nR ≤ 40) (hnX : A 0 2 = nI nX) (hlX : nX ≤ 60) : mt_I l D cls_ [(cI, .int), (cZ, .boolean)] nst_ y_tr_skip (Cond.code y_tr_skip b_tr_skip 4 (some .boolean) :: gt_) (rmd 2) [.ref (q 0), .int x, .int d, .int (b2 out)] (tw cI cZ q A) (fun r u => r = (if (hN (nI nR) x && dC d) = true then (if out = true then b2 (!(decide (nX = 60) || !decide (x_find (A 8) (A 9) x d nX 0 = -1))) else b2 (!decide (x_find (A 8) (A 9) x d nX 0 = -1))) else 0) ∧ u = tw cI cZ q (if (hN (nI nR) x && dC d) = true then (if out = true then (if (decide (nX = 60) || !decide (x_find (A 8) (A 9) x d nX 0 = -1)) = true then A else (ua (ua (ua A 0 (uz (A 0) 2 (nI (nX + 1)))) 8 (upd (A 8) nX x)) 9 (upd (A 9) nX d))) else (if x_find (A 8) (A 9) x d nX 0 = -1 then A else (ua (ua (ua A 0 (uz (A 0) 2 (nI (nX - 1)))) 8 (upd (A 8) (x_find (A 8) (A 9) x d nX 0).toNatClampNeg (A 8 (nX - 1)))) 9 (upd (A 9) (x_find (A 8) (A 9) x d nX 0).toNatClampNeg (A 9 (nX - 1)))))) else A)) := by
  refine mt_I_of (by decide) (Nat.le_of_ble_eq_true rfl) ?_
  intro p e s m below meth c AA X hr hlk
  refine jj_lve (lv' := [(0, .ref (q 0)), (1, .int x), (2, .int d), (3, .int (b2 out))]) rfl ?_
  refine jj_aload_n X d_tr_skip_0 1 rfl 0 rfl ?_
  refine jj_get (v := .ref (q 2)) X d_tr_skip_1 4 rfl i_tr 1 f_tr_19 0 rfl rfl (by decide) rfl rfl ?_
  refine jj_iload_n X d_tr_skip_4 5 rfl 1 rfl ?_
  refine jj_callV0 (st := []) X d_tr_skip_5 8 rfl (c_ro_has l D cI cZ q A x) g_tr_74 ⟨rfl, w_ro_has⟩ ⟨(Nat.le_of_ble_eq_true rfl), (Nat.le_of_ble_eq_true rfl)⟩ rfl 2 rfl rfl rfl (Nat.le_of_ble_eq_true rfl) ⟨rfl, rfl⟩ ⟨Nat.zero_le _, Nat.zero_le _⟩ (fun r u hu => ?_)
  obtain ⟨rfl, rfl⟩ := hu
  rw [hnR]
  refine jj_if_eq X d_tr_skip_8 18 11 (by decide) rfl (fun c8 => ?_) (fun c8 => ?_)
  · have c8 := b2_f c8
    refine jj_iconst (v := 0) X d_tr_skip_18 19 rfl (by decide) ?_
    exact jj_zret X hr hlk d_tr_skip_19 (rfl) (⟨by simp [*], by simp [*]⟩)
  · have c8 := b2_t c8
    refine jj_iload_n X d_tr_skip_11 12 rfl 2 rfl ?_
    refine jj_callS0 (st := []) X d_tr_skip_12 15 rfl (c_tr_isDay l D cI cZ q A d) g_tr_75 ⟨rfl, w_tr_isDay⟩ ⟨(Nat.le_of_ble_eq_true rfl), (Nat.le_of_ble_eq_true rfl)⟩ rfl rfl (Nat.le_of_ble_eq_true rfl) ⟨rfl, rfl⟩ ⟨Nat.zero_le _, Nat.zero_le _⟩ (fun r u hu => ?_)
    obtain ⟨rfl, rfl⟩ := hu
    refine jj_if_ne X d_tr_skip_15 20 18 (by decide) rfl (fun c15 => ?_) (fun c15 => ?_)
    · have c15 := b2_t c15
      refine jj_iload_n X d_tr_skip_20 21 rfl 3 rfl ?_
      refine jj_if_eq X d_tr_skip_21 39 24 (by decide) rfl (fun c21 => ?_) (fun c21 => ?_)
      · have c21 := b2_f c21
        refine jj_aload_n X d_tr_skip_39 40 rfl 0 rfl ?_
        refine jj_get (v := .ref (q 2)) X d_tr_skip_40 43 rfl i_tr 1 f_tr_19 0 rfl rfl (by decide) rfl rfl ?_
        refine jj_get (v := .ref (q 3)) X d_tr_skip_43 46 rfl i_ro 6 f_tr_78 2 rfl rfl (by decide) rfl rfl ?_
        refine jj_iload_n X d_tr_skip_46 47 rfl 1 rfl ?_
        refine jj_iload_n X d_tr_skip_47 48 rfl 2 rfl ?_
        refine jj_callV0 (st := []) X d_tr_skip_48 51 rfl (c_lo_remove l D cI cZ q A nX x d hnX hlX) g_tr_87 ⟨rfl, w_lo_remove⟩ ⟨(Nat.le_of_ble_eq_true rfl), (Nat.le_of_ble_eq_true rfl)⟩ rfl 3 rfl rfl rfl (Nat.le_of_ble_eq_true rfl) ⟨rfl, rfl⟩ ⟨Nat.zero_le _, Nat.zero_le _⟩ (fun r u hu => ?_)
        obtain ⟨rfl, rfl⟩ := hu
        exact jj_zret X hr hlk d_tr_skip_51 (b2_nar _) (⟨by simp [*], by simp [*]⟩)
      · have c21 := b2_t c21
        refine jj_aload_n X d_tr_skip_24 25 rfl 0 rfl ?_
        refine jj_get (v := .ref (q 2)) X d_tr_skip_25 28 rfl i_tr 1 f_tr_19 0 rfl rfl (by decide) rfl rfl ?_
        refine jj_get (v := .ref (q 3)) X d_tr_skip_28 31 rfl i_ro 6 f_tr_78 2 rfl rfl (by decide) rfl rfl ?_
        refine jj_iload_n X d_tr_skip_31 32 rfl 1 rfl ?_
        refine jj_iload_n X d_tr_skip_32 33 rfl 2 rfl ?_
        refine jj_callV0 (st := []) X d_tr_skip_33 36 rfl (c_lo_add l D cI cZ q A nX x d hnX hlX) g_tr_82 ⟨rfl, w_lo_add⟩ ⟨(Nat.le_of_ble_eq_true rfl), (Nat.le_of_ble_eq_true rfl)⟩ rfl 3 rfl rfl rfl (Nat.le_of_ble_eq_true rfl) ⟨rfl, rfl⟩ ⟨Nat.zero_le _, Nat.zero_le _⟩ (fun r u hu => ?_)
        obtain ⟨rfl, rfl⟩ := hu
        refine jj_goto X d_tr_skip_36 51 (by decide) ?_
        exact jj_zret X hr hlk d_tr_skip_51 (b2_nar _) (⟨by simp [*], by simp [*]⟩)
    · have c15 := b2_f c15
      refine jj_iconst (v := 0) X d_tr_skip_18 19 rfl (by decide) ?_
      exact jj_zret X hr hlk d_tr_skip_19 (rfl) (⟨by simp [*], by simp [*]⟩)
