set_option maxRecDepth 100000 in
set_option maxHeartbeats 4000000 in
theorem c_pl_has (l : Launch) (D : va_G) (cI cZ : ClassId) (q : Nat → Nat) (A : Rows) (x : Int32) : mt_I l D cls_ [(cI, .int), (cZ, .boolean)] nst_ y_pl_has (Cond.code y_pl_has b_pl_has 2 (some .boolean) :: gt_) (rmd 0) [.ref (q 1), .int x] (tw cI cZ q A) (fun r u => r = b2 (hN (A 0 0) x) ∧ u = tw cI cZ q A) := by
  refine mt_I_of (by decide) (Nat.le_of_ble_eq_true rfl) ?_
  intro p e s m below meth c AA X hr hlk
  refine jj_lve (lv' := [(0, .ref (q 1)), (1, .int x)]) rfl ?_
  refine jj_iload_n X d_pl_has_0 1 rfl 1 rfl ?_
  refine jj_if_lt X d_pl_has_1 16 4 (by decide) rfl (fun c1 => ?_) (fun c1 => ?_)
  · refine jj_iconst (v := 0) X d_pl_has_16 17 rfl (by decide) ?_
    exact jj_zret X hr hlk d_pl_has_17 (rfl) (⟨by simp [hN, b2, *], rfl⟩)
  · refine jj_iload_n X d_pl_has_4 5 rfl 1 rfl ?_
    refine jj_aload_n X d_pl_has_5 6 rfl 0 rfl ?_
    refine jj_get (v := .int (A 0 0)) X d_pl_has_6 9 rfl i_pl 1 f_pl_15 1 rfl rfl (by decide) rfl rfl ?_
    refine jj_icmp_ge X d_pl_has_9 16 12 (by decide) rfl (fun c9 => ?_) (fun c9 => ?_)
    · refine jj_iconst (v := 0) X d_pl_has_16 17 rfl (by decide) ?_
      exact jj_zret X hr hlk d_pl_has_17 (rfl) (⟨by simp [hN, b2, *], rfl⟩)
    · refine jj_iconst (v := 1) X d_pl_has_12 13 rfl (by decide) ?_
      refine jj_goto X d_pl_has_13 17 (by decide) ?_
      exact jj_zret X hr hlk d_pl_has_17 (rfl) (⟨by simp [hN, b2, *], rfl⟩)
set_option maxRecDepth 100000 in
set_option maxHeartbeats 4000000 in
theorem c_ro_has (l : Launch) (D : va_G) (cI cZ : ClassId) (q : Nat → Nat) (A : Rows) (x : Int32) : mt_I l D cls_ [(cI, .int), (cZ, .boolean)] nst_ y_ro_has (Cond.code y_ro_has b_ro_has 2 (some .boolean) :: gt_) (rmd 0) [.ref (q 2), .int x] (tw cI cZ q A) (fun r u => r = b2 (hN (A 0 1) x) ∧ u = tw cI cZ q A) := by
  refine mt_I_of (by decide) (Nat.le_of_ble_eq_true rfl) ?_
  intro p e s m below meth c AA X hr hlk
  refine jj_lve (lv' := [(0, .ref (q 2)), (1, .int x)]) rfl ?_
  refine jj_iload_n X d_ro_has_0 1 rfl 1 rfl ?_
  refine jj_if_lt X d_ro_has_1 16 4 (by decide) rfl (fun c1 => ?_) (fun c1 => ?_)
  · refine jj_iconst (v := 0) X d_ro_has_16 17 rfl (by decide) ?_
    exact jj_zret X hr hlk d_ro_has_17 (rfl) (⟨by simp [hN, b2, *], rfl⟩)
  · refine jj_iload_n X d_ro_has_4 5 rfl 1 rfl ?_
    refine jj_aload_n X d_ro_has_5 6 rfl 0 rfl ?_
    refine jj_get (v := .int (A 0 1)) X d_ro_has_6 9 rfl i_ro 7 f_ro_37 2 rfl rfl (by decide) rfl rfl ?_
    refine jj_icmp_ge X d_ro_has_9 16 12 (by decide) rfl (fun c9 => ?_) (fun c9 => ?_)
    · refine jj_iconst (v := 0) X d_ro_has_16 17 rfl (by decide) ?_
      exact jj_zret X hr hlk d_ro_has_17 (rfl) (⟨by simp [hN, b2, *], rfl⟩)
    · refine jj_iconst (v := 1) X d_ro_has_12 13 rfl (by decide) ?_
      refine jj_goto X d_ro_has_13 17 (by decide) ?_
      exact jj_zret X hr hlk d_ro_has_17 (rfl) (⟨by simp [hN, b2, *], rfl⟩)
set_option maxRecDepth 100000 in
set_option maxHeartbeats 4000000 in
theorem c_cp_has (l : Launch) (D : va_G) (cI cZ : ClassId) (q : Nat → Nat) (A : Rows) (x : Int32) : mt_I l D cls_ [(cI, .int), (cZ, .boolean)] nst_ y_cp_has (Cond.code y_cp_has b_cp_has 2 (some .boolean) :: gt_) (rmd 0) [.ref (q 4), .int x] (tw cI cZ q A) (fun r u => r = b2 (h1 (A 0 3) x) ∧ u = tw cI cZ q A) := by
  refine mt_I_of (by decide) (Nat.le_of_ble_eq_true rfl) ?_
  intro p e s m below meth c AA X hr hlk
  refine jj_lve (lv' := [(0, .ref (q 4)), (1, .int x)]) rfl ?_
  refine jj_iload_n X d_cp_has_0 1 rfl 1 rfl ?_
  refine jj_iconst (v := 1) X d_cp_has_1 2 rfl (by decide) ?_
  refine jj_icmp_lt X d_cp_has_2 17 5 (by decide) rfl (fun c2 => ?_) (fun c2 => ?_)
  · refine jj_iconst (v := 0) X d_cp_has_17 18 rfl (by decide) ?_
    exact jj_zret X hr hlk d_cp_has_18 (rfl) (⟨by simp [h1, b2, *], rfl⟩)
  · refine jj_iload_n X d_cp_has_5 6 rfl 1 rfl ?_
    refine jj_aload_n X d_cp_has_6 7 rfl 0 rfl ?_
    refine jj_get (v := .int (A 0 3)) X d_cp_has_7 10 rfl i_cp 5 f_cp_28 4 rfl rfl (by decide) rfl rfl ?_
    refine jj_icmp_gt X d_cp_has_10 17 13 (by decide) rfl (fun c10 => ?_) (fun c10 => ?_)
    · refine jj_iconst (v := 0) X d_cp_has_17 18 rfl (by decide) ?_
      exact jj_zret X hr hlk d_cp_has_18 (rfl) (⟨by simp [h1, b2, *], rfl⟩)
    · refine jj_iconst (v := 1) X d_cp_has_13 14 rfl (by decide) ?_
      refine jj_goto X d_cp_has_14 18 (by decide) ?_
      exact jj_zret X hr hlk d_cp_has_18 (rfl) (⟨by simp [h1, b2, *], rfl⟩)
set_option maxRecDepth 100000 in
set_option maxHeartbeats 4000000 in
theorem c_sl_has (l : Launch) (D : va_G) (cI cZ : ClassId) (q : Nat → Nat) (A : Rows) (x : Int32) : mt_I l D cls_ [(cI, .int), (cZ, .boolean)] nst_ y_sl_has (Cond.code y_sl_has b_sl_has 2 (some .boolean) :: gt_) (rmd 0) [.ref (q 5), .int x] (tw cI cZ q A) (fun r u => r = b2 (h1 (A 0 4) x) ∧ u = tw cI cZ q A) := by
  refine mt_I_of (by decide) (Nat.le_of_ble_eq_true rfl) ?_
  intro p e s m below meth c AA X hr hlk
  refine jj_lve (lv' := [(0, .ref (q 5)), (1, .int x)]) rfl ?_
  refine jj_iload_n X d_sl_has_0 1 rfl 1 rfl ?_
  refine jj_iconst (v := 1) X d_sl_has_1 2 rfl (by decide) ?_
  refine jj_icmp_lt X d_sl_has_2 17 5 (by decide) rfl (fun c2 => ?_) (fun c2 => ?_)
  · refine jj_iconst (v := 0) X d_sl_has_17 18 rfl (by decide) ?_
    exact jj_zret X hr hlk d_sl_has_18 (rfl) (⟨by simp [h1, b2, *], rfl⟩)
  · refine jj_iload_n X d_sl_has_5 6 rfl 1 rfl ?_
    refine jj_aload_n X d_sl_has_6 7 rfl 0 rfl ?_
    refine jj_get (v := .int (A 0 4)) X d_sl_has_7 10 rfl i_sl 6 f_sl_30 5 rfl rfl (by decide) rfl rfl ?_
    refine jj_icmp_gt X d_sl_has_10 17 13 (by decide) rfl (fun c10 => ?_) (fun c10 => ?_)
    · refine jj_iconst (v := 0) X d_sl_has_17 18 rfl (by decide) ?_
      exact jj_zret X hr hlk d_sl_has_18 (rfl) (⟨by simp [h1, b2, *], rfl⟩)
    · refine jj_iconst (v := 1) X d_sl_has_13 14 rfl (by decide) ?_
      refine jj_goto X d_sl_has_14 18 (by decide) ?_
      exact jj_zret X hr hlk d_sl_has_18 (rfl) (⟨by simp [h1, b2, *], rfl⟩)
set_option maxRecDepth 100000 in
set_option maxHeartbeats 4000000 in
theorem c_ld_has (l : Launch) (D : va_G) (cI cZ : ClassId) (q : Nat → Nat) (A : Rows) (x : Int32) : mt_I l D cls_ [(cI, .int), (cZ, .boolean)] nst_ y_ld_has (Cond.code y_ld_has b_ld_has 2 (some .boolean) :: gt_) (rmd 0) [.ref (q 6), .int x] (tw cI cZ q A) (fun r u => r = b2 (h1 (A 0 5) x) ∧ u = tw cI cZ q A) := by
  refine mt_I_of (by decide) (Nat.le_of_ble_eq_true rfl) ?_
  intro p e s m below meth c AA X hr hlk
  refine jj_lve (lv' := [(0, .ref (q 6)), (1, .int x)]) rfl ?_
  refine jj_iload_n X d_ld_has_0 1 rfl 1 rfl ?_
  refine jj_iconst (v := 1) X d_ld_has_1 2 rfl (by decide) ?_
  refine jj_icmp_lt X d_ld_has_2 17 5 (by decide) rfl (fun c2 => ?_) (fun c2 => ?_)
  · refine jj_iconst (v := 0) X d_ld_has_17 18 rfl (by decide) ?_
    exact jj_zret X hr hlk d_ld_has_18 (rfl) (⟨by simp [h1, b2, *], rfl⟩)
  · refine jj_iload_n X d_ld_has_5 6 rfl 1 rfl ?_
    refine jj_aload_n X d_ld_has_6 7 rfl 0 rfl ?_
    refine jj_get (v := .int (A 0 5)) X d_ld_has_7 10 rfl i_ld 2 f_ld_18 6 rfl rfl (by decide) rfl rfl ?_
    refine jj_icmp_gt X d_ld_has_10 17 13 (by decide) rfl (fun c10 => ?_) (fun c10 => ?_)
    · refine jj_iconst (v := 0) X d_ld_has_17 18 rfl (by decide) ?_
      exact jj_zret X hr hlk d_ld_has_18 (rfl) (⟨by simp [h1, b2, *], rfl⟩)
    · refine jj_iconst (v := 1) X d_ld_has_13 14 rfl (by decide) ?_
      refine jj_goto X d_ld_has_14 18 (by decide) ?_
      exact jj_zret X hr hlk d_ld_has_18 (rfl) (⟨by simp [h1, b2, *], rfl⟩)
set_option maxRecDepth 100000 in
set_option maxHeartbeats 4000000 in
theorem c_te_has (l : Launch) (D : va_G) (cI cZ : ClassId) (q : Nat → Nat) (A : Rows) (x : Int32) : mt_I l D cls_ [(cI, .int), (cZ, .boolean)] nst_ y_te_has (Cond.code y_te_has b_te_has 2 (some .boolean) :: gt_) (rmd 0) [.ref (q 7), .int x] (tw cI cZ q A) (fun r u => r = b2 (hN (A 0 6) x) ∧ u = tw cI cZ q A) := by
  refine mt_I_of (by decide) (Nat.le_of_ble_eq_true rfl) ?_
  intro p e s m below meth c AA X hr hlk
  refine jj_lve (lv' := [(0, .ref (q 7)), (1, .int x)]) rfl ?_
  refine jj_iload_n X d_te_has_0 1 rfl 1 rfl ?_
  refine jj_if_lt X d_te_has_1 16 4 (by decide) rfl (fun c1 => ?_) (fun c1 => ?_)
  · refine jj_iconst (v := 0) X d_te_has_16 17 rfl (by decide) ?_
    exact jj_zret X hr hlk d_te_has_17 (rfl) (⟨by simp [hN, b2, *], rfl⟩)
  · refine jj_iload_n X d_te_has_4 5 rfl 1 rfl ?_
    refine jj_aload_n X d_te_has_5 6 rfl 0 rfl ?_
    refine jj_get (v := .int (A 0 6)) X d_te_has_6 9 rfl i_te 2 f_te_18 7 rfl rfl (by decide) rfl rfl ?_
    refine jj_icmp_ge X d_te_has_9 16 12 (by decide) rfl (fun c9 => ?_) (fun c9 => ?_)
    · refine jj_iconst (v := 0) X d_te_has_16 17 rfl (by decide) ?_
      exact jj_zret X hr hlk d_te_has_17 (rfl) (⟨by simp [hN, b2, *], rfl⟩)
    · refine jj_iconst (v := 1) X d_te_has_12 13 rfl (by decide) ?_
      refine jj_goto X d_te_has_13 17 (by decide) ?_
      exact jj_zret X hr hlk d_te_has_17 (rfl) (⟨by simp [hN, b2, *], rfl⟩)
set_option maxRecDepth 100000 in
set_option maxHeartbeats 4000000 in
theorem c_tr_isDay (l : Launch) (D : va_G) (cI cZ : ClassId) (q : Nat → Nat) (A : Rows) (x : Int32) : mt_I l D cls_ [(cI, .int), (cZ, .boolean)] nst_ y_tr_isDay (Cond.code y_tr_isDay b_tr_isDay 1 (some .boolean) :: gt_) (rmd 0) [.int x] (tw cI cZ q A) (fun r u => r = b2 (dC x) ∧ u = tw cI cZ q A) := by
  refine mt_I_of (by decide) (Nat.le_of_ble_eq_true rfl) ?_
  intro p e s m below meth c AA X hr hlk
  refine jj_lve (lv' := [(0, .int x)]) rfl ?_
  refine jj_iload_n X d_tr_isDay_0 1 rfl 0 rfl ?_
  refine jj_if_lt X d_tr_isDay_1 14 4 (by decide) rfl (fun c1 => ?_) (fun c1 => ?_)
  · refine jj_iconst (v := 0) X d_tr_isDay_14 15 rfl (by decide) ?_
    exact jj_zret X hr hlk d_tr_isDay_15 (rfl) (⟨by simp [dC, b2, *], rfl⟩)
  · refine jj_iload_n X d_tr_isDay_4 5 rfl 0 rfl ?_
    refine jj_ldc (v := 99999) X d_tr_isDay_5 7 rfl o_tr_204 ?_
    refine jj_icmp_gt X d_tr_isDay_7 14 10 (by decide) rfl (fun c7 => ?_) (fun c7 => ?_)
    · refine jj_iconst (v := 0) X d_tr_isDay_14 15 rfl (by decide) ?_
      exact jj_zret X hr hlk d_tr_isDay_15 (rfl) (⟨by simp [dC, b2, *], rfl⟩)
    · refine jj_iconst (v := 1) X d_tr_isDay_10 11 rfl (by decide) ?_
      refine jj_goto X d_tr_isDay_11 15 (by decide) ?_
      exact jj_zret X hr hlk d_tr_isDay_15 (rfl) (⟨by simp [dC, b2, *], rfl⟩)
