set_option maxRecDepth 100000 in
set_option maxHeartbeats 4000000 in
theorem c_pl_add (l : Launch) (D : va_G) (cI cZ : ClassId) (q : Nat → Nat) (A : Rows) (n : Nat) (hn : A 0 0 = nI n) (hle : n ≤ 12) : mt_I l D cls_ [(cI, .int), (cZ, .boolean)] nst_ y_pl_add (Cond.code y_pl_add b_pl_add 1 (some .int) :: gt_) (rmd 0) [.ref (q 1)] (tw cI cZ q A) (fun r u => r = (if n = 12 then -1 else nI n) ∧ u = tw cI cZ q (if n = 12 then A else (ua (ua A 0 (uz (A 0) 0 (nI (n + 1)))) 1 (upd (A 1) n 1)))) := by
  refine mt_I_of (by decide) (Nat.le_of_ble_eq_true rfl) ?_
  intro p e s m below meth c AA X hr hlk
  refine jj_lve (lv' := [(0, .ref (q 1))]) rfl ?_
  refine jj_aload_n X d_pl_add_0 1 rfl 0 rfl ?_
  refine jj_get (v := .int (nI n)) X d_pl_add_1 4 rfl i_pl 1 f_pl_15 1 rfl rfl (by decide) rfl (by rw [← hn]; rfl) ?_
  refine jj_bipush (v := 12) X d_pl_add_4 6 rfl (by decide) ?_
  refine jj_icmp_ne X d_pl_add_6 11 9 (by decide) rfl (fun c6 => ?_) (fun c6 => ?_)
  · have hne : n ≠ 12 := nI_neD c6
    refine jj_aload_n X d_pl_add_11 12 rfl 0 rfl ?_
    refine jj_get (v := .ref (q 8)) X d_pl_add_12 15 rfl i_pl 0 f_pl_9 1 rfl rfl (by decide) rfl rfl ?_
    refine jj_aload_n X d_pl_add_15 16 rfl 0 rfl ?_
    refine jj_get (v := .int (nI n)) X d_pl_add_16 19 rfl i_pl 1 f_pl_15 1 rfl rfl (by decide) rfl (by rw [← hn]; rfl) ?_
    refine jj_iconst (v := 1) X d_pl_add_19 20 rfl (by decide) ?_
    refine jj_zast (ws' := tw cI cZ q ((ua A 1 (upd (A 1) n 1)))) X d_pl_add_20 21 rfl 8 1 rfl rfl (vp_in_nI (by omega) (by omega)) (rfl) (by rw [nI_clamp (by omega)]; rfl) ?_
    refine jj_aload_n X d_pl_add_21 22 rfl 0 rfl ?_
    refine jj_dup X d_pl_add_22 23 rfl rfl ?_
    refine jj_get (v := .int (nI n)) X d_pl_add_23 26 rfl i_pl 1 f_pl_15 1 rfl rfl (by decide) rfl (by rw [← hn]; rfl) ?_
    refine jj_dup_x1 X d_pl_add_26 27 rfl rfl rfl ?_
    refine jj_iconst (v := 1) X d_pl_add_27 28 rfl (by decide) ?_
    refine jj_iadd X d_pl_add_28 29 rfl ?_
    refine jj_topv (y := nI (n + 1)) (nI_1 _) ?_
    refine jj_put (ty := .int) (ws' := tw cI cZ q ((ua (ua A 0 (uz (A 0) 0 (nI (n + 1)))) 1 (upd (A 1) n 1)))) X d_pl_add_29 32 rfl i_pl t_pl t_pl_ok n_pl 1 f_pl_15 1 rfl rfl (by decide) rfl rfl (by decide +kernel) rfl rfl (Nat.le_of_ble_eq_true rfl) rfl ?_
    exact jj_iret X hr hlk d_pl_add_32 (⟨by simp [hne], by simp [hne]⟩)
  · have hne : n = 12 := nI_eqD c6 (by omega) (by omega)
    refine jj_iconst (v := -1) X d_pl_add_9 10 rfl (by decide) ?_
    exact jj_iret X hr hlk d_pl_add_10 (⟨by simp [hne], by simp [hne]⟩)
set_option maxRecDepth 100000 in
set_option maxHeartbeats 4000000 in
theorem c_ro_add (l : Launch) (D : va_G) (cI cZ : ClassId) (q : Nat → Nat) (A : Rows) (n : Nat) (a1 a2 a3 a4 a5 : Int32) (hn : A 0 1 = nI n) (hle : n ≤ 40) : mt_I l D cls_ [(cI, .int), (cZ, .boolean)] nst_ y_ro_add (Cond.code y_ro_add b_ro_add 6 (some .int) :: gt_) (rmd 0) [.ref (q 2), .int a1, .int a2, .int a3, .int a4, .int a5] (tw cI cZ q A) (fun r u => r = (if n = 40 then -1 else nI n) ∧ u = tw cI cZ q (if n = 40 then A else (ua (ua (ua (ua (ua (ua (ua A 0 (uz (A 0) 1 (nI (n + 1)))) 2 (upd (A 2) n a1)) 3 (upd (A 3) n a2)) 4 (upd (A 4) n a3)) 5 (upd (A 5) n a4)) 6 (upd (A 6) n a5)) 7 (upd (A 7) n (-1))))) := by
  refine mt_I_of (by decide) (Nat.le_of_ble_eq_true rfl) ?_
  intro p e s m below meth c AA X hr hlk
  refine jj_lve (lv' := [(0, .ref (q 2)), (1, .int a1), (2, .int a2), (3, .int a3), (4, .int a4), (5, .int a5)]) rfl ?_
  refine jj_aload_n X d_ro_add_0 1 rfl 0 rfl ?_
  refine jj_get (v := .int (nI n)) X d_ro_add_1 4 rfl i_ro 7 f_ro_37 2 rfl rfl (by decide) rfl (by rw [← hn]; rfl) ?_
  refine jj_bipush (v := 40) X d_ro_add_4 6 rfl (by decide) ?_
  refine jj_icmp_ne X d_ro_add_6 11 9 (by decide) rfl (fun c6 => ?_) (fun c6 => ?_)
  · have hne : n ≠ 40 := nI_neD c6
    refine jj_aload_n X d_ro_add_11 12 rfl 0 rfl ?_
    refine jj_get (v := .ref (q 9)) X d_ro_add_12 15 rfl i_ro 0 f_ro_9 2 rfl rfl (by decide) rfl rfl ?_
    refine jj_aload_n X d_ro_add_15 16 rfl 0 rfl ?_
    refine jj_get (v := .int (nI n)) X d_ro_add_16 19 rfl i_ro 7 f_ro_37 2 rfl rfl (by decide) rfl (by rw [← hn]; rfl) ?_
    refine jj_iload_n X d_ro_add_19 20 rfl 1 rfl ?_
    refine jj_iast (ws' := tw cI cZ q ((ua A 2 (upd (A 2) n a1)))) X d_ro_add_20 21 rfl 9 0 rfl rfl (vp_in_nI (by omega) (by omega)) (by rw [nI_clamp (by omega)]; rfl) ?_
    refine jj_aload_n X d_ro_add_21 22 rfl 0 rfl ?_
    refine jj_get (v := .ref (q 10)) X d_ro_add_22 25 rfl i_ro 1 f_ro_15 2 rfl rfl (by decide) rfl rfl ?_
    refine jj_aload_n X d_ro_add_25 26 rfl 0 rfl ?_
    refine jj_get (v := .int (nI n)) X d_ro_add_26 29 rfl i_ro 7 f_ro_37 2 rfl rfl (by decide) rfl (by rw [← hn]; rfl) ?_
    refine jj_iload_n X d_ro_add_29 30 rfl 2 rfl ?_
    refine jj_iast (ws' := tw cI cZ q ((ua (ua A 2 (upd (A 2) n a1)) 3 (upd (A 3) n a2)))) X d_ro_add_30 31 rfl 10 0 rfl rfl (vp_in_nI (by omega) (by omega)) (by rw [nI_clamp (by omega)]; rfl) ?_
    refine jj_aload_n X d_ro_add_31 32 rfl 0 rfl ?_
    refine jj_get (v := .ref (q 11)) X d_ro_add_32 35 rfl i_ro 2 f_ro_18 2 rfl rfl (by decide) rfl rfl ?_
    refine jj_aload_n X d_ro_add_35 36 rfl 0 rfl ?_
    refine jj_get (v := .int (nI n)) X d_ro_add_36 39 rfl i_ro 7 f_ro_37 2 rfl rfl (by decide) rfl (by rw [← hn]; rfl) ?_
    refine jj_iload_n X d_ro_add_39 40 rfl 3 rfl ?_
    refine jj_iast (ws' := tw cI cZ q ((ua (ua (ua A 2 (upd (A 2) n a1)) 3 (upd (A 3) n a2)) 4 (upd (A 4) n a3)))) X d_ro_add_40 41 rfl 11 0 rfl rfl (vp_in_nI (by omega) (by omega)) (by rw [nI_clamp (by omega)]; rfl) ?_
    refine jj_aload_n X d_ro_add_41 42 rfl 0 rfl ?_
    refine jj_get (v := .ref (q 12)) X d_ro_add_42 45 rfl i_ro 3 f_ro_21 2 rfl rfl (by decide) rfl rfl ?_
    refine jj_aload_n X d_ro_add_45 46 rfl 0 rfl ?_
    refine jj_get (v := .int (nI n)) X d_ro_add_46 49 rfl i_ro 7 f_ro_37 2 rfl rfl (by decide) rfl (by rw [← hn]; rfl) ?_
    refine jj_iload X d_ro_add_49 51 rfl 4 rfl ?_
    refine jj_iast (ws' := tw cI cZ q ((ua (ua (ua (ua A 2 (upd (A 2) n a1)) 3 (upd (A 3) n a2)) 4 (upd (A 4) n a3)) 5 (upd (A 5) n a4)))) X d_ro_add_51 52 rfl 12 0 rfl rfl (vp_in_nI (by omega) (by omega)) (by rw [nI_clamp (by omega)]; rfl) ?_
    refine jj_aload_n X d_ro_add_52 53 rfl 0 rfl ?_
    refine jj_get (v := .ref (q 13)) X d_ro_add_53 56 rfl i_ro 4 f_ro_24 2 rfl rfl (by decide) rfl rfl ?_
    refine jj_aload_n X d_ro_add_56 57 rfl 0 rfl ?_
    refine jj_get (v := .int (nI n)) X d_ro_add_57 60 rfl i_ro 7 f_ro_37 2 rfl rfl (by decide) rfl (by rw [← hn]; rfl) ?_
    refine jj_iload X d_ro_add_60 62 rfl 5 rfl ?_
    refine jj_iast (ws' := tw cI cZ q ((ua (ua (ua (ua (ua A 2 (upd (A 2) n a1)) 3 (upd (A 3) n a2)) 4 (upd (A 4) n a3)) 5 (upd (A 5) n a4)) 6 (upd (A 6) n a5)))) X d_ro_add_62 63 rfl 13 0 rfl rfl (vp_in_nI (by omega) (by omega)) (by rw [nI_clamp (by omega)]; rfl) ?_
    refine jj_aload_n X d_ro_add_63 64 rfl 0 rfl ?_
    refine jj_get (v := .ref (q 14)) X d_ro_add_64 67 rfl i_ro 5 f_ro_27 2 rfl rfl (by decide) rfl rfl ?_
    refine jj_aload_n X d_ro_add_67 68 rfl 0 rfl ?_
    refine jj_get (v := .int (nI n)) X d_ro_add_68 71 rfl i_ro 7 f_ro_37 2 rfl rfl (by decide) rfl (by rw [← hn]; rfl) ?_
    refine jj_iconst (v := -1) X d_ro_add_71 72 rfl (by decide) ?_
    refine jj_iast (ws' := tw cI cZ q ((ua (ua (ua (ua (ua (ua A 2 (upd (A 2) n a1)) 3 (upd (A 3) n a2)) 4 (upd (A 4) n a3)) 5 (upd (A 5) n a4)) 6 (upd (A 6) n a5)) 7 (upd (A 7) n (-1))))) X d_ro_add_72 73 rfl 14 0 rfl rfl (vp_in_nI (by omega) (by omega)) (by rw [nI_clamp (by omega)]; rfl) ?_
    refine jj_aload_n X d_ro_add_73 74 rfl 0 rfl ?_
    refine jj_dup X d_ro_add_74 75 rfl rfl ?_
    refine jj_get (v := .int (nI n)) X d_ro_add_75 78 rfl i_ro 7 f_ro_37 2 rfl rfl (by decide) rfl (by rw [← hn]; rfl) ?_
    refine jj_dup_x1 X d_ro_add_78 79 rfl rfl rfl ?_
    refine jj_iconst (v := 1) X d_ro_add_79 80 rfl (by decide) ?_
    refine jj_iadd X d_ro_add_80 81 rfl ?_
    refine jj_topv (y := nI (n + 1)) (nI_1 _) ?_
    refine jj_put (ty := .int) (ws' := tw cI cZ q ((ua (ua (ua (ua (ua (ua (ua A 0 (uz (A 0) 1 (nI (n + 1)))) 2 (upd (A 2) n a1)) 3 (upd (A 3) n a2)) 4 (upd (A 4) n a3)) 5 (upd (A 5) n a4)) 6 (upd (A 6) n a5)) 7 (upd (A 7) n (-1))))) X d_ro_add_81 84 rfl i_ro t_ro t_ro_ok n_ro 7 f_ro_37 2 rfl rfl (by decide) rfl rfl (by decide +kernel) rfl rfl (Nat.le_of_ble_eq_true rfl) rfl ?_
    exact jj_iret X hr hlk d_ro_add_84 (⟨by simp [hne], by simp [hne]⟩)
  · have hne : n = 40 := nI_eqD c6 (by omega) (by omega)
    refine jj_iconst (v := -1) X d_ro_add_9 10 rfl (by decide) ?_
    exact jj_iret X hr hlk d_ro_add_10 (⟨by simp [hne], by simp [hne]⟩)
set_option maxRecDepth 100000 in
set_option maxHeartbeats 4000000 in
theorem c_cp_add (l : Launch) (D : va_G) (cI cZ : ClassId) (q : Nat → Nat) (A : Rows) (n : Nat) (a : Int32) (hn : A 0 3 = nI n) (hle : n ≤ 60) : mt_I l D cls_ [(cI, .int), (cZ, .boolean)] nst_ y_cp_add (Cond.code y_cp_add b_cp_add 2 (some .int) :: gt_) (rmd 0) [.ref (q 4), .int a] (tw cI cZ q A) (fun r u => r = (if n = 60 then 0 else nI (n + 1)) ∧ u = tw cI cZ q (if n = 60 then A else (ua (ua (ua A 0 (uz (A 0) 3 (nI (n + 1)))) 10 (upd (A 10) (n + 1) a)) 11 (upd (A 11) (n + 1) a)))) := by
  refine mt_I_of (by decide) (Nat.le_of_ble_eq_true rfl) ?_
  intro p e s m below meth c AA X hr hlk
  refine jj_lve (lv' := [(0, .ref (q 4)), (1, .int a)]) rfl ?_
  refine jj_aload_n X d_cp_add_0 1 rfl 0 rfl ?_
  refine jj_get (v := .int (nI n)) X d_cp_add_1 4 rfl i_cp 5 f_cp_28 4 rfl rfl (by decide) rfl (by rw [← hn]; rfl) ?_
  refine jj_bipush (v := 60) X d_cp_add_4 6 rfl (by decide) ?_
  refine jj_icmp_ne X d_cp_add_6 11 9 (by decide) rfl (fun c6 => ?_) (fun c6 => ?_)
  · have hne : n ≠ 60 := nI_neD c6
    refine jj_aload_n X d_cp_add_11 12 rfl 0 rfl ?_
    refine jj_dup X d_cp_add_12 13 rfl rfl ?_
    refine jj_get (v := .int (nI n)) X d_cp_add_13 16 rfl i_cp 5 f_cp_28 4 rfl rfl (by decide) rfl (by rw [← hn]; rfl) ?_
    refine jj_iconst (v := 1) X d_cp_add_16 17 rfl (by decide) ?_
    refine jj_iadd X d_cp_add_17 18 rfl ?_
    refine jj_topv (y := nI (n + 1)) (nI_1 _) ?_
    refine jj_put (ty := .int) (ws' := tw cI cZ q ((ua A 0 (uz (A 0) 3 (nI (n + 1)))))) X d_cp_add_18 21 rfl i_cp t_cp t_cp_ok n_cp 5 f_cp_28 4 rfl rfl (by decide) rfl rfl (by decide +kernel) rfl rfl (Nat.le_of_ble_eq_true rfl) rfl ?_
    refine jj_aload_n X d_cp_add_21 22 rfl 0 rfl ?_
    refine jj_get (v := .ref (q 17)) X d_cp_add_22 25 rfl i_cp 0 f_cp_9 4 rfl rfl (by decide) rfl rfl ?_
    refine jj_aload_n X d_cp_add_25 26 rfl 0 rfl ?_
    refine jj_get (v := .int (nI (n + 1))) X d_cp_add_26 29 rfl i_cp 5 f_cp_28 4 rfl rfl (by decide) rfl rfl ?_
    refine jj_iload_n X d_cp_add_29 30 rfl 1 rfl ?_
    refine jj_iast (ws' := tw cI cZ q ((ua (ua A 0 (uz (A 0) 3 (nI (n + 1)))) 10 (upd (A 10) ((n + 1)) a)))) X d_cp_add_30 31 rfl 17 0 rfl rfl (vp_in_nI (by omega) (by omega)) (by rw [nI_clamp (by omega)]; rfl) ?_
    refine jj_aload_n X d_cp_add_31 32 rfl 0 rfl ?_
    refine jj_get (v := .ref (q 18)) X d_cp_add_32 35 rfl i_cp 1 f_cp_15 4 rfl rfl (by decide) rfl rfl ?_
    refine jj_aload_n X d_cp_add_35 36 rfl 0 rfl ?_
    refine jj_get (v := .int (nI (n + 1))) X d_cp_add_36 39 rfl i_cp 5 f_cp_28 4 rfl rfl (by decide) rfl rfl ?_
    refine jj_iload_n X d_cp_add_39 40 rfl 1 rfl ?_
    refine jj_iast (ws' := tw cI cZ q ((ua (ua (ua A 0 (uz (A 0) 3 (nI (n + 1)))) 10 (upd (A 10) ((n + 1)) a)) 11 (upd (A 11) ((n + 1)) a)))) X d_cp_add_40 41 rfl 18 0 rfl rfl (vp_in_nI (by omega) (by omega)) (by rw [nI_clamp (by omega)]; rfl) ?_
    refine jj_aload_n X d_cp_add_41 42 rfl 0 rfl ?_
    refine jj_get (v := .int (nI (n + 1))) X d_cp_add_42 45 rfl i_cp 5 f_cp_28 4 rfl rfl (by decide) rfl rfl ?_
    exact jj_iret X hr hlk d_cp_add_45 (⟨by simp [hne], by simp [hne]⟩)
  · have hne : n = 60 := nI_eqD c6 (by omega) (by omega)
    refine jj_iconst (v := 0) X d_cp_add_9 10 rfl (by decide) ?_
    exact jj_iret X hr hlk d_cp_add_10 (⟨by simp [hne], by simp [hne]⟩)
set_option maxRecDepth 100000 in
set_option maxHeartbeats 4000000 in
theorem c_lo_find (l : Launch) (D : va_G) (cI cZ : ClassId) (q : Nat → Nat) (A : Rows) (n : Nat) (a b : Int32) (hn : A 0 2 = nI n) (hle : n ≤ 60) : mt_I l D cls_ [(cI, .int), (cZ, .boolean)] nst_ y_lo_find (Cond.code y_lo_find b_lo_find 4 (some .int) :: gt_) (rmd 0) [.ref (q 3), .int a, .int b] (tw cI cZ q A) (fun r u => r = x_find (A 8) (A 9) a b n 0 ∧ u = tw cI cZ q A) := by
  refine mt_I_of (by decide) (Nat.le_of_ble_eq_true rfl) ?_
  intro p e s m below meth c AA X hr hlk
  refine jj_lve (lv' := [(0, .ref (q 3)), (1, .int a), (2, .int b)]) rfl ?_
  refine jj_iconst (v := 0) X d_lo_find_0 1 rfl (by decide) ?_
  refine jj_istore_n (lv' := [(0, .ref (q 3)), (1, .int a), (2, .int b), (3, .int 0)]) X d_lo_find_1 2 rfl (by decide) rfl rfl ?_
  refine jj_loop (fun (k : Nat) => k ≤ n ∧ x_find (A 8) (A 9) a b (n - k) k = x_find (A 8) (A 9) a b n 0) (fun (k : Nat) => n - k) (fun (k : Nat) => [(0, .ref (q 3)), (1, .int a), (2, .int b), (3, .int (nI k))]) (fun (k : Nat) => []) (fun (k : Nat) => tw cI cZ q A) (0) (⟨Nat.zero_le _, by rw [Nat.sub_zero]⟩) rfl rfl rfl ?_
  rintro k hI ih2
  try dsimp only at hI ih2 ⊢
  obtain ⟨hk, hf⟩ := hI
  refine jj_iload_n X d_lo_find_2 3 rfl 3 rfl ?_
  refine jj_aload_n X d_lo_find_3 4 rfl 0 rfl ?_
  refine jj_get (v := .int (nI n)) X d_lo_find_4 7 rfl i_lo 2 f_lo_18 3 rfl rfl (by decide) rfl (by rw [← hn]; rfl) ?_
  refine jj_icmp_ge X d_lo_find_7 38 10 (by decide) rfl (fun c7 => ?_) (fun c7 => ?_)
  · have hkn : k = n := Nat.le_antisymm hk (nI_leD c7 (by omega) (by omega))
    subst hkn
    refine jj_iconst (v := -1) X d_lo_find_38 39 rfl (by decide) ?_
    exact jj_iret X hr hlk d_lo_find_39 (⟨by rw [← hf, x_find_e], rfl⟩)
  · have hkn : k < n := nI_nleD c7 (by omega) (by omega)
    refine jj_aload_n X d_lo_find_10 11 rfl 0 rfl ?_
    refine jj_get (v := .ref (q 15)) X d_lo_find_11 14 rfl i_lo 0 f_lo_9 3 rfl rfl (by decide) rfl rfl ?_
    refine jj_iload_n X d_lo_find_14 15 rfl 3 rfl ?_
    refine jj_iald (v := A 8 k) X d_lo_find_15 16 rfl 15 0 rfl rfl (vp_in_nI (by omega) (by omega)) (ar_cl (by omega)) ?_
    refine jj_iload_n X d_lo_find_16 17 rfl 1 rfl ?_
    refine jj_icmp_ne X d_lo_find_17 32 20 (by decide) rfl (fun c17 => ?_) (fun c17 => ?_)
    · refine jj_iinc (v := nI (k + 1)) (lv' := [(0, .ref (q 3)), (1, .int a), (2, .int b), (3, .int (nI (k + 1)))]) X d_lo_find_32 35 rfl 3 rfl (ar_inc _) (by decide) rfl rfl ?_
      refine jj_goto X d_lo_find_35 2 (by decide) ?_
      exact ih2 (k + 1) (⟨by omega, by rw [← hf, x_find_s hkn, if_neg (by simp [*])]⟩) (by omega)
    · refine jj_aload_n X d_lo_find_20 21 rfl 0 rfl ?_
      refine jj_get (v := .ref (q 16)) X d_lo_find_21 24 rfl i_lo 1 f_lo_15 3 rfl rfl (by decide) rfl rfl ?_
      refine jj_iload_n X d_lo_find_24 25 rfl 3 rfl ?_
      refine jj_iald (v := A 9 k) X d_lo_find_25 26 rfl 16 0 rfl rfl (vp_in_nI (by omega) (by omega)) (ar_cl (by omega)) ?_
      refine jj_iload_n X d_lo_find_26 27 rfl 2 rfl ?_
      refine jj_icmp_ne X d_lo_find_27 32 30 (by decide) rfl (fun c27 => ?_) (fun c27 => ?_)
      · refine jj_iinc (v := nI (k + 1)) (lv' := [(0, .ref (q 3)), (1, .int a), (2, .int b), (3, .int (nI (k + 1)))]) X d_lo_find_32 35 rfl 3 rfl (ar_inc _) (by decide) rfl rfl ?_
        refine jj_goto X d_lo_find_35 2 (by decide) ?_
        exact ih2 (k + 1) (⟨by omega, by rw [← hf, x_find_s hkn, if_neg (by simp [*])]⟩) (by omega)
      · refine jj_iload_n X d_lo_find_30 31 rfl 3 rfl ?_
        exact jj_iret X hr hlk d_lo_find_31 (⟨by rw [← hf, x_find_s hkn, if_pos (by simp [*])], rfl⟩)
set_option maxRecDepth 100000 in
set_option maxHeartbeats 4000000 in
theorem c_lo_add (l : Launch) (D : va_G) (cI cZ : ClassId) (q : Nat → Nat) (A : Rows) (n : Nat) (a b : Int32) (hn : A 0 2 = nI n) (hle : n ≤ 60) : mt_I l D cls_ [(cI, .int), (cZ, .boolean)] nst_ y_lo_add (Cond.code y_lo_add b_lo_add 3 (some .boolean) :: gt_) (rmd 1) [.ref (q 3), .int a, .int b] (tw cI cZ q A) (fun r u => r = b2 (!(decide (n = 60) || !decide (x_find (A 8) (A 9) a b n 0 = -1))) ∧ u = tw cI cZ q (if (decide (n = 60) || !decide (x_find (A 8) (A 9) a b n 0 = -1)) = true then A else (ua (ua (ua A 0 (uz (A 0) 2 (nI (n + 1)))) 8 (upd (A 8) n a)) 9 (upd (A 9) n b)))) := by
  refine mt_I_of (by decide) (Nat.le_of_ble_eq_true rfl) ?_
  intro p e s m below meth c AA X hr hlk
  refine jj_lve (lv' := [(0, .ref (q 3)), (1, .int a), (2, .int b)]) rfl ?_
  refine jj_aload_n X d_lo_add_0 1 rfl 0 rfl ?_
  refine jj_get (v := .int (nI n)) X d_lo_add_1 4 rfl i_lo 2 f_lo_18 3 rfl rfl (by decide) rfl (by rw [← hn]; rfl) ?_
  refine jj_bipush (v := 60) X d_lo_add_4 6 rfl (by decide) ?_
  refine jj_icmp_eq X d_lo_add_6 19 9 (by decide) rfl (fun c6 => ?_) (fun c6 => ?_)
  · have hne : n = 60 := nI_eqD c6 (by omega) (by omega)
    refine jj_iconst (v := 0) X d_lo_add_19 20 rfl (by decide) ?_
    exact jj_zret X hr hlk d_lo_add_20 (rfl) (⟨by simp [b2, *], by simp [*]⟩)
  · have hne : n ≠ 60 := nI_neD c6
    refine jj_aload_n X d_lo_add_9 10 rfl 0 rfl ?_
    refine jj_iload_n X d_lo_add_10 11 rfl 1 rfl ?_
    refine jj_iload_n X d_lo_add_11 12 rfl 2 rfl ?_
    refine jj_callV0 (st := []) X d_lo_add_12 15 rfl (c_lo_find l D cI cZ q A n a b hn hle) g_lo_22 ⟨rfl, w_lo_find⟩ ⟨(Nat.le_of_ble_eq_true rfl), (Nat.le_of_ble_eq_true rfl)⟩ rfl 3 rfl rfl rfl (Nat.le_of_ble_eq_true rfl) ⟨rfl, rfl⟩ ⟨Nat.zero_le _, Nat.zero_le _⟩ (fun r u hu => ?_)
    obtain ⟨rfl, rfl⟩ := hu
    refine jj_iconst (v := -1) X d_lo_add_15 16 rfl (by decide) ?_
    refine jj_icmp_eq X d_lo_add_16 21 19 (by decide) rfl (fun c16 => ?_) (fun c16 => ?_)
    · refine jj_aload_n X d_lo_add_21 22 rfl 0 rfl ?_
      refine jj_get (v := .ref (q 15)) X d_lo_add_22 25 rfl i_lo 0 f_lo_9 3 rfl rfl (by decide) rfl rfl ?_
      refine jj_aload_n X d_lo_add_25 26 rfl 0 rfl ?_
      refine jj_get (v := .int (nI n)) X d_lo_add_26 29 rfl i_lo 2 f_lo_18 3 rfl rfl (by decide) rfl (by rw [← hn]; rfl) ?_
      refine jj_iload_n X d_lo_add_29 30 rfl 1 rfl ?_
      refine jj_iast (ws' := tw cI cZ q ((ua A 8 (upd (A 8) n a)))) X d_lo_add_30 31 rfl 15 0 rfl rfl (vp_in_nI (by omega) (by omega)) (by rw [nI_clamp (by omega)]; rfl) ?_
      refine jj_aload_n X d_lo_add_31 32 rfl 0 rfl ?_
      refine jj_get (v := .ref (q 16)) X d_lo_add_32 35 rfl i_lo 1 f_lo_15 3 rfl rfl (by decide) rfl rfl ?_
      refine jj_aload_n X d_lo_add_35 36 rfl 0 rfl ?_
      refine jj_get (v := .int (nI n)) X d_lo_add_36 39 rfl i_lo 2 f_lo_18 3 rfl rfl (by decide) rfl (by rw [← hn]; rfl) ?_
      refine jj_iload_n X d_lo_add_39 40 rfl 2 rfl ?_
      refine jj_iast (ws' := tw cI cZ q ((ua (ua A 8 (upd (A 8) n a)) 9 (upd (A 9) n b)))) X d_lo_add_40 41 rfl 16 0 rfl rfl (vp_in_nI (by omega) (by omega)) (by rw [nI_clamp (by omega)]; rfl) ?_
      refine jj_aload_n X d_lo_add_41 42 rfl 0 rfl ?_
      refine jj_dup X d_lo_add_42 43 rfl rfl ?_
      refine jj_get (v := .int (nI n)) X d_lo_add_43 46 rfl i_lo 2 f_lo_18 3 rfl rfl (by decide) rfl (by rw [← hn]; rfl) ?_
      refine jj_iconst (v := 1) X d_lo_add_46 47 rfl (by decide) ?_
      refine jj_iadd X d_lo_add_47 48 rfl ?_
      refine jj_topv (y := nI (n + 1)) (nI_1 _) ?_
      refine jj_put (ty := .int) (ws' := tw cI cZ q ((ua (ua (ua A 0 (uz (A 0) 2 (nI (n + 1)))) 8 (upd (A 8) n a)) 9 (upd (A 9) n b)))) X d_lo_add_48 51 rfl i_lo t_lo t_lo_ok n_lo 2 f_lo_18 3 rfl rfl (by decide) rfl rfl (by decide +kernel) rfl rfl (Nat.le_of_ble_eq_true rfl) rfl ?_
      refine jj_iconst (v := 1) X d_lo_add_51 52 rfl (by decide) ?_
      exact jj_zret X hr hlk d_lo_add_52 (rfl) (⟨by simp [b2, *], by simp [*]⟩)
    · refine jj_iconst (v := 0) X d_lo_add_19 20 rfl (by decide) ?_
      exact jj_zret X hr hlk d_lo_add_20 (rfl) (⟨by simp [b2, *], by simp [*]⟩)
set_option maxRecDepth 100000 in
set_option maxHeartbeats 4000000 in
theorem c_lo_remove (l : Launch) (D : va_G) (cI cZ : ClassId) (q : Nat → Nat) (A : Rows) (n : Nat) (a b : Int32) (hn : A 0 2 = nI n) (hle : n ≤ 60) : mt_I l D cls_ [(cI, .int), (cZ, .boolean)] nst_ y_lo_remove (Cond.code y_lo_remove b_lo_remove 4 (some .boolean) :: gt_) (rmd 1) [.ref (q 3), .int a, .int b] (tw cI cZ q A) (fun r u => r = b2 (!decide (x_find (A 8) (A 9) a b n 0 = -1)) ∧ u = tw cI cZ q (if x_find (A 8) (A 9) a b n 0 = -1 then A else (ua (ua (ua A 0 (uz (A 0) 2 (nI (n - 1)))) 8 (upd (A 8) (x_find (A 8) (A 9) a b n 0).toNatClampNeg (A 8 (n - 1)))) 9 (upd (A 9) (x_find (A 8) (A 9) a b n 0).toNatClampNeg (A 9 (n - 1)))))) := by
  refine mt_I_of (by decide) (Nat.le_of_ble_eq_true rfl) ?_
  intro p e s m below meth c AA X hr hlk
  refine jj_lve (lv' := [(0, .ref (q 3)), (1, .int a), (2, .int b)]) rfl ?_
  refine jj_aload_n X d_lo_remove_0 1 rfl 0 rfl ?_
  refine jj_iload_n X d_lo_remove_1 2 rfl 1 rfl ?_
  refine jj_iload_n X d_lo_remove_2 3 rfl 2 rfl ?_
  refine jj_callV0 (st := []) X d_lo_remove_3 6 rfl (c_lo_find l D cI cZ q A n a b hn hle) g_lo_22 ⟨rfl, w_lo_find⟩ ⟨(Nat.le_of_ble_eq_true rfl), (Nat.le_of_ble_eq_true rfl)⟩ rfl 3 rfl rfl rfl (Nat.le_of_ble_eq_true rfl) ⟨rfl, rfl⟩ ⟨Nat.zero_le _, Nat.zero_le _⟩ (fun r u hu => ?_)
  obtain ⟨rfl, rfl⟩ := hu
  refine jj_istore_n (lv' := [(0, .ref (q 3)), (1, .int a), (2, .int b), (3, .int (x_find (A 8) (A 9) a b n 0))]) X d_lo_remove_6 7 rfl (by decide) rfl rfl ?_
  refine jj_iload_n X d_lo_remove_7 8 rfl 3 rfl ?_
  refine jj_iconst (v := -1) X d_lo_remove_8 9 rfl (by decide) ?_
  refine jj_icmp_ne X d_lo_remove_9 14 12 (by decide) rfl (fun c9 => ?_) (fun c9 => ?_)
  · obtain ⟨j, -, hj, ej, -, -⟩ := (x_find_r (f := A 8) (g := A 9) (a := a) (b := b) n 0).resolve_left c9
    have hin : vp_in (x_find (A 8) (A 9) a b n 0) 60 := by rw [ej]; exact vp_in_nI (by omega) (by omega)
    refine jj_aload_n X d_lo_remove_14 15 rfl 0 rfl ?_
    refine jj_dup X d_lo_remove_15 16 rfl rfl ?_
    refine jj_get (v := .int (nI n)) X d_lo_remove_16 19 rfl i_lo 2 f_lo_18 3 rfl rfl (by decide) rfl (by rw [← hn]; rfl) ?_
    refine jj_iconst (v := 1) X d_lo_remove_19 20 rfl (by decide) ?_
    refine jj_isub X d_lo_remove_20 21 rfl ?_
    refine jj_topv (y := nI (n - 1)) (pk_sub (b := 1) (by omega)) ?_
    refine jj_put (ty := .int) (ws' := tw cI cZ q ((ua A 0 (uz (A 0) 2 (nI (n - 1)))))) X d_lo_remove_21 24 rfl i_lo t_lo t_lo_ok n_lo 2 f_lo_18 3 rfl rfl (by decide) rfl rfl (by decide +kernel) rfl rfl (Nat.le_of_ble_eq_true rfl) rfl ?_
    refine jj_aload_n X d_lo_remove_24 25 rfl 0 rfl ?_
    refine jj_get (v := .ref (q 15)) X d_lo_remove_25 28 rfl i_lo 0 f_lo_9 3 rfl rfl (by decide) rfl rfl ?_
    refine jj_iload_n X d_lo_remove_28 29 rfl 3 rfl ?_
    refine jj_aload_n X d_lo_remove_29 30 rfl 0 rfl ?_
    refine jj_get (v := .ref (q 15)) X d_lo_remove_30 33 rfl i_lo 0 f_lo_9 3 rfl rfl (by decide) rfl rfl ?_
    refine jj_aload_n X d_lo_remove_33 34 rfl 0 rfl ?_
    refine jj_get (v := .int (nI (n - 1))) X d_lo_remove_34 37 rfl i_lo 2 f_lo_18 3 rfl rfl (by decide) rfl rfl ?_
    refine jj_iald (v := A 8 (n - 1)) X d_lo_remove_37 38 rfl 15 0 rfl rfl (vp_in_nI (by omega) (by omega)) (ar_cl (by omega)) ?_
    refine jj_iast (ws' := tw cI cZ q ((ua (ua A 0 (uz (A 0) 2 (nI (n - 1)))) 8 (upd (A 8) ((x_find (A 8) (A 9) a b n 0).toNatClampNeg) (A 8 (n - 1)))))) X d_lo_remove_38 39 rfl 15 0 rfl rfl (hin) rfl ?_
    refine jj_aload_n X d_lo_remove_39 40 rfl 0 rfl ?_
    refine jj_get (v := .ref (q 16)) X d_lo_remove_40 43 rfl i_lo 1 f_lo_15 3 rfl rfl (by decide) rfl rfl ?_
    refine jj_iload_n X d_lo_remove_43 44 rfl 3 rfl ?_
    refine jj_aload_n X d_lo_remove_44 45 rfl 0 rfl ?_
    refine jj_get (v := .ref (q 16)) X d_lo_remove_45 48 rfl i_lo 1 f_lo_15 3 rfl rfl (by decide) rfl rfl ?_
    refine jj_aload_n X d_lo_remove_48 49 rfl 0 rfl ?_
    refine jj_get (v := .int (nI (n - 1))) X d_lo_remove_49 52 rfl i_lo 2 f_lo_18 3 rfl rfl (by decide) rfl rfl ?_
    refine jj_iald (v := A 9 (n - 1)) X d_lo_remove_52 53 rfl 16 0 rfl rfl (vp_in_nI (by omega) (by omega)) (ar_cl (by omega)) ?_
    refine jj_iast (ws' := tw cI cZ q ((ua (ua (ua A 0 (uz (A 0) 2 (nI (n - 1)))) 8 (upd (A 8) ((x_find (A 8) (A 9) a b n 0).toNatClampNeg) (A 8 (n - 1)))) 9 (upd (A 9) ((x_find (A 8) (A 9) a b n 0).toNatClampNeg) (A 9 (n - 1)))))) X d_lo_remove_53 54 rfl 16 0 rfl rfl (hin) rfl ?_
    refine jj_iconst (v := 1) X d_lo_remove_54 55 rfl (by decide) ?_
    exact jj_zret X hr hlk d_lo_remove_55 (rfl) (⟨by simp [b2, c9], by simp [c9]⟩)
  · refine jj_iconst (v := 0) X d_lo_remove_12 13 rfl (by decide) ?_
    exact jj_zret X hr hlk d_lo_remove_13 (rfl) (⟨by simp [b2, *], by simp [*]⟩)
set_option maxRecDepth 100000 in
set_option maxHeartbeats 4000000 in
theorem c_ro_joins (l : Launch) (D : va_G) (cI cZ : ClassId) (q : Nat → Nat) (A : Rows) (x a b : Int32) (hx : vp_in x 40) : mt_I l D cls_ [(cI, .int), (cZ, .boolean)] nst_ y_ro_joins (Cond.code y_ro_joins b_ro_joins 4 (some .boolean) :: gt_) (rmd 0) [.ref (q 2), .int x, .int a, .int b] (tw cI cZ q A) (fun r u => r = b2 (joC A x a b) ∧ u = tw cI cZ q A) := by
  refine mt_I_of (by decide) (Nat.le_of_ble_eq_true rfl) ?_
  intro p e s m below meth c AA X hr hlk
  refine jj_lve (lv' := [(0, .ref (q 2)), (1, .int x), (2, .int a), (3, .int b)]) rfl ?_
  refine jj_aload_n X d_ro_joins_0 1 rfl 0 rfl ?_
  refine jj_get (v := .ref (q 9)) X d_ro_joins_1 4 rfl i_ro 0 f_ro_9 2 rfl rfl (by decide) rfl rfl ?_
  refine jj_iload_n X d_ro_joins_4 5 rfl 1 rfl ?_
  refine jj_iald (v := A 2 x.toNatClampNeg) X d_ro_joins_5 6 rfl 9 0 rfl rfl (by assumption) (rfl) ?_
  refine jj_iload_n X d_ro_joins_6 7 rfl 2 rfl ?_
  refine jj_icmp_ne X d_ro_joins_7 24 10 (by decide) rfl (fun c7 => ?_) (fun c7 => ?_)
  · refine jj_iconst (v := 0) X d_ro_joins_24 25 rfl (by decide) ?_
    exact jj_zret X hr hlk d_ro_joins_25 (rfl) (⟨by simp [joC, b2, *], rfl⟩)
  · refine jj_aload_n X d_ro_joins_10 11 rfl 0 rfl ?_
    refine jj_get (v := .ref (q 10)) X d_ro_joins_11 14 rfl i_ro 1 f_ro_15 2 rfl rfl (by decide) rfl rfl ?_
    refine jj_iload_n X d_ro_joins_14 15 rfl 1 rfl ?_
    refine jj_iald (v := A 3 x.toNatClampNeg) X d_ro_joins_15 16 rfl 10 0 rfl rfl (by assumption) (rfl) ?_
    refine jj_iload_n X d_ro_joins_16 17 rfl 3 rfl ?_
    refine jj_icmp_ne X d_ro_joins_17 24 20 (by decide) rfl (fun c17 => ?_) (fun c17 => ?_)
    · refine jj_iconst (v := 0) X d_ro_joins_24 25 rfl (by decide) ?_
      exact jj_zret X hr hlk d_ro_joins_25 (rfl) (⟨by simp [joC, b2, *], rfl⟩)
    · refine jj_iconst (v := 1) X d_ro_joins_20 21 rfl (by decide) ?_
      refine jj_goto X d_ro_joins_21 25 (by decide) ?_
      exact jj_zret X hr hlk d_ro_joins_25 (rfl) (⟨by simp [joC, b2, *], rfl⟩)
set_option maxRecDepth 100000 in
set_option maxHeartbeats 4000000 in
theorem c_ro_runsOn (l : Launch) (D : va_G) (cI cZ : ClassId) (q : Nat → Nat) (A : Rows) (n : Nat) (x d : Int32) (hn : A 0 2 = nI n) (hle : n ≤ 60) (hx : vp_in x 40) : mt_I l D cls_ [(cI, .int), (cZ, .boolean)] nst_ y_ro_runsOn (Cond.code y_ro_runsOn b_ro_runsOn 4 (some .boolean) :: gt_) (rmd 1) [.ref (q 2), .int x, .int d] (tw cI cZ q A) (fun r u => r = b2 (ruC A n x d) ∧ u = tw cI cZ q A) := by
  refine mt_I_of (by decide) (Nat.le_of_ble_eq_true rfl) ?_
  intro p e s m below meth c AA X hr hlk
  refine jj_lve (lv' := [(0, .ref (q 2)), (1, .int x), (2, .int d)]) rfl ?_
  refine jj_aload_n X d_ro_runsOn_0 1 rfl 0 rfl ?_
  refine jj_get (v := .ref (q 11)) X d_ro_runsOn_1 4 rfl i_ro 2 f_ro_18 2 rfl rfl (by decide) rfl rfl ?_
  refine jj_iload_n X d_ro_runsOn_4 5 rfl 1 rfl ?_
  refine jj_iald (v := A 4 x.toNatClampNeg) X d_ro_runsOn_5 6 rfl 11 0 rfl rfl (by assumption) (rfl) ?_
  refine jj_iload_n X d_ro_runsOn_6 7 rfl 2 rfl ?_
  refine jj_bipush (v := 7) X d_ro_runsOn_7 9 rfl (by decide) ?_
  refine jj_irem X d_ro_runsOn_9 10 rfl (by decide) ?_
  refine jj_ishr X d_ro_runsOn_10 11 rfl ?_
  refine jj_iconst (v := 1) X d_ro_runsOn_11 12 rfl (by decide) ?_
  refine jj_iand X d_ro_runsOn_12 13 rfl ?_
  refine jj_iconst (v := 1) X d_ro_runsOn_13 14 rfl (by decide) ?_
  refine jj_icmp_ne X d_ro_runsOn_14 21 17 (by decide) rfl (fun c14 => ?_) (fun c14 => ?_)
  · refine jj_iconst (v := 0) X d_ro_runsOn_21 22 rfl (by decide) ?_
    refine jj_istore_n (lv' := [(0, .ref (q 2)), (1, .int x), (2, .int d), (3, .int 0)]) X d_ro_runsOn_22 23 rfl (by decide) rfl rfl ?_
    refine jj_iload_n X d_ro_runsOn_23 24 rfl 3 rfl ?_
    refine jj_if_eq X d_ro_runsOn_24 44 27 (by decide) rfl (fun c24 => ?_) (fun c24 => ?_)
    · refine jj_iconst (v := 0) X d_ro_runsOn_44 45 rfl (by decide) ?_
      exact jj_zret X hr hlk d_ro_runsOn_45 (rfl) (⟨by simp [ruC, b2, *], rfl⟩)
    · exact absurd c24 (by decide)
  · refine jj_iconst (v := 1) X d_ro_runsOn_17 18 rfl (by decide) ?_
    refine jj_goto X d_ro_runsOn_18 22 (by decide) ?_
    refine jj_istore_n (lv' := [(0, .ref (q 2)), (1, .int x), (2, .int d), (3, .int 1)]) X d_ro_runsOn_22 23 rfl (by decide) rfl rfl ?_
    refine jj_iload_n X d_ro_runsOn_23 24 rfl 3 rfl ?_
    refine jj_if_eq X d_ro_runsOn_24 44 27 (by decide) rfl (fun c24 => ?_) (fun c24 => ?_)
    · exact absurd c24 (by decide)
    · refine jj_aload_n X d_ro_runsOn_27 28 rfl 0 rfl ?_
      refine jj_get (v := .ref (q 3)) X d_ro_runsOn_28 31 rfl i_ro 6 f_ro_33 2 rfl rfl (by decide) rfl rfl ?_
      refine jj_iload_n X d_ro_runsOn_31 32 rfl 1 rfl ?_
      refine jj_iload_n X d_ro_runsOn_32 33 rfl 2 rfl ?_
      refine jj_callV0 (st := []) X d_ro_runsOn_33 36 rfl (c_lo_find l D cI cZ q A n x d hn hle) g_ro_41 ⟨rfl, w_lo_find⟩ ⟨(Nat.le_of_ble_eq_true rfl), (Nat.le_of_ble_eq_true rfl)⟩ rfl 3 rfl rfl rfl (Nat.le_of_ble_eq_true rfl) ⟨rfl, rfl⟩ ⟨Nat.zero_le _, Nat.zero_le _⟩ (fun r u hu => ?_)
      obtain ⟨rfl, rfl⟩ := hu
      refine jj_iconst (v := -1) X d_ro_runsOn_36 37 rfl (by decide) ?_
      refine jj_icmp_ne X d_ro_runsOn_37 44 40 (by decide) rfl (fun c37 => ?_) (fun c37 => ?_)
      · refine jj_iconst (v := 0) X d_ro_runsOn_44 45 rfl (by decide) ?_
        exact jj_zret X hr hlk d_ro_runsOn_45 (rfl) (⟨by simp [ruC, b2, *], rfl⟩)
      · refine jj_iconst (v := 1) X d_ro_runsOn_40 41 rfl (by decide) ?_
        refine jj_goto X d_ro_runsOn_41 45 (by decide) ?_
        exact jj_zret X hr hlk d_ro_runsOn_45 (rfl) (⟨by simp [ruC, b2, *], rfl⟩)
set_option maxRecDepth 100000 in
set_option maxHeartbeats 4000000 in
theorem c_ro_firstRun (l : Launch) (D : va_G) (cI cZ : ClassId) (q : Nat → Nat) (A : Rows) (n : Nat) (x : Int32) (e0 : Nat) (hn : A 0 2 = nI n) (hle : n ≤ 60) (hx : vp_in x 40) (he0 : e0 ≤ 100000) : mt_I l D cls_ [(cI, .int), (cZ, .boolean)] nst_ y_ro_firstRun (Cond.code y_ro_firstRun b_ro_firstRun 4 (some .int) :: gt_) (rmd 2) [.ref (q 2), .int x, .int (nI e0)] (tw cI cZ q A) (fun r u => r = x_fst A n x (100000 - e0) e0 ∧ u = tw cI cZ q A) := by
  refine mt_I_of (by decide) (Nat.le_of_ble_eq_true rfl) ?_
  intro p e s m below meth c AA X hr hlk
  refine jj_lve (lv' := [(0, .ref (q 2)), (1, .int x), (2, .int (nI e0))]) rfl ?_
  refine jj_iload_n X d_ro_firstRun_0 1 rfl 2 rfl ?_
  refine jj_istore_n (lv' := [(0, .ref (q 2)), (1, .int x), (2, .int (nI e0)), (3, .int (nI e0))]) X d_ro_firstRun_1 2 rfl (by decide) rfl rfl ?_
  refine jj_loop (fun (t : Nat) => t ≤ 100000 ∧ x_fst A n x (100000 - t) t = x_fst A n x (100000 - e0) e0) (fun (t : Nat) => 100000 - t) (fun (t : Nat) => [(0, .ref (q 2)), (1, .int x), (2, .int (nI e0)), (3, .int (nI t))]) (fun (t : Nat) => []) (fun (t : Nat) => tw cI cZ q A) (e0) (⟨he0, rfl⟩) rfl rfl rfl ?_
  rintro t hI ih2
  try dsimp only at hI ih2 ⊢
  obtain ⟨ht, hf⟩ := hI
  refine jj_iload_n X d_ro_firstRun_2 3 rfl 3 rfl ?_
  refine jj_ldc (v := 99999) X d_ro_firstRun_3 5 rfl o_ro_45 ?_
  refine jj_icmp_gt X d_ro_firstRun_5 25 8 (by decide) rfl (fun c5 => ?_) (fun c5 => ?_)
  · have htn : t = 100000 := by have := nI_ltD (a := 99999) (b := t) c5 (by omega) (by omega); omega
    subst htn
    refine jj_iconst (v := -1) X d_ro_firstRun_25 26 rfl (by decide) ?_
    exact jj_iret X hr hlk d_ro_firstRun_26 (⟨by rw [← hf]; rfl, rfl⟩)
  · have htn : t < 100000 := by have := nI_nltD (a := 99999) (b := t) c5 (by omega) (by omega); omega
    refine jj_aload_n X d_ro_firstRun_8 9 rfl 0 rfl ?_
    refine jj_iload_n X d_ro_firstRun_9 10 rfl 1 rfl ?_
    refine jj_iload_n X d_ro_firstRun_10 11 rfl 3 rfl ?_
    refine jj_callV0 (st := []) X d_ro_firstRun_11 14 rfl (c_ro_runsOn l D cI cZ q A n x (nI t) hn hle (hx)) g_ro_46 ⟨rfl, w_ro_runsOn⟩ ⟨(Nat.le_of_ble_eq_true rfl), (Nat.le_of_ble_eq_true rfl)⟩ rfl 2 rfl rfl rfl (Nat.le_of_ble_eq_true rfl) ⟨rfl, rfl⟩ ⟨Nat.zero_le _, Nat.zero_le _⟩ (fun r u hu => ?_)
    obtain ⟨rfl, rfl⟩ := hu
    refine jj_if_eq X d_ro_firstRun_14 19 17 (by decide) rfl (fun c14 => ?_) (fun c14 => ?_)
    · have c14 := b2_f c14
      refine jj_iinc (v := nI (t + 1)) (lv' := [(0, .ref (q 2)), (1, .int x), (2, .int (nI e0)), (3, .int (nI (t + 1)))]) X d_ro_firstRun_19 22 rfl 3 rfl (ar_inc _) (by decide) rfl rfl ?_
      refine jj_goto X d_ro_firstRun_22 2 (by decide) ?_
      exact ih2 (t + 1) (⟨by omega, by rw [← hf, x_fst_s htn, if_neg (by simp [*])]⟩) (by omega)
    · have c14 := b2_t c14
      refine jj_iload_n X d_ro_firstRun_17 18 rfl 3 rfl ?_
      exact jj_iret X hr hlk d_ro_firstRun_18 (⟨by rw [← hf, x_fst_s htn, if_pos (by simp [*])], rfl⟩)
set_option maxRecDepth 100000 in
set_option maxHeartbeats 4000000 in
theorem c_ro_findQuickest (l : Launch) (D : va_G) (cI cZ : ClassId) (q : Nat → Nat) (A : Rows) (n m0 : Nat) (a b : Int32) (e0 : Nat) (hn : A 0 2 = nI n) (hle : n ≤ 60) (hm : A 0 1 = nI m0) (hml : m0 ≤ 40) (he0 : e0 ≤ 100000) : mt_I l D cls_ [(cI, .int), (cZ, .boolean)] nst_ y_ro_findQuickest (Cond.code y_ro_findQuickest b_ro_findQuickest 8 (some .int) :: gt_) (rmd 3) [.ref (q 2), .int a, .int b, .int (nI e0)] (tw cI cZ q A) (fun r u => r = x_qk A n a b e0 m0 0 (-1) 0 ∧ u = tw cI cZ q A) := by
  refine mt_I_of (by decide) (Nat.le_of_ble_eq_true rfl) ?_
  intro p e s m below meth c AA X hr hlk
  refine jj_lve (lv' := [(0, .ref (q 2)), (1, .int a), (2, .int b), (3, .int (nI e0))]) rfl ?_
  refine jj_iconst (v := -1) X d_ro_findQuickest_0 1 rfl (by decide) ?_
  refine jj_istore (lv' := [(0, .ref (q 2)), (1, .int a), (2, .int b), (3, .int (nI e0)), (4, .int (-1))]) X d_ro_findQuickest_1 3 rfl (by decide) rfl rfl ?_
  refine jj_iconst (v := 0) X d_ro_findQuickest_3 4 rfl (by decide) ?_
  refine jj_istore (lv' := [(0, .ref (q 2)), (1, .int a), (2, .int b), (3, .int (nI e0)), (4, .int (-1)), (5, .int 0)]) X d_ro_findQuickest_4 6 rfl (by decide) rfl rfl ?_
  refine jj_iconst (v := 0) X d_ro_findQuickest_6 7 rfl (by decide) ?_
  refine jj_istore (lv' := [(0, .ref (q 2)), (1, .int a), (2, .int b), (3, .int (nI e0)), (4, .int (-1)), (5, .int 0), (6, .int 0)]) X d_ro_findQuickest_7 9 rfl (by decide) rfl rfl ?_
  refine jj_loop (fun ((j, best, bd) : Nat × Int32 × Int32) => j ≤ m0 ∧ x_qk A n a b e0 (m0 - j) j best bd = x_qk A n a b e0 m0 0 (-1) 0) (fun ((j, best, bd) : Nat × Int32 × Int32) => m0 - j) (fun ((j, best, bd) : Nat × Int32 × Int32) => [(0, .ref (q 2)), (1, .int a), (2, .int b), (3, .int (nI e0)), (4, .int best), (5, .int bd), (6, .int (nI j))]) (fun ((j, best, bd) : Nat × Int32 × Int32) => []) (fun ((j, best, bd) : Nat × Int32 × Int32) => tw cI cZ q A) ((0, -1, 0)) (⟨Nat.zero_le _, rfl⟩) rfl rfl rfl ?_
  rintro ⟨j, best, bd⟩ hI ih9
  try dsimp only at hI ih9 ⊢
  obtain ⟨hj, hf⟩ := hI
  refine jj_iload X d_ro_findQuickest_9 11 rfl 6 rfl ?_
  refine jj_aload_n X d_ro_findQuickest_11 12 rfl 0 rfl ?_
  refine jj_get (v := .int (nI m0)) X d_ro_findQuickest_12 15 rfl i_ro 7 f_ro_37 2 rfl rfl (by decide) rfl (by rw [← hm]; rfl) ?_
  refine jj_icmp_ge X d_ro_findQuickest_15 91 18 (by decide) rfl (fun c15 => ?_) (fun c15 => ?_)
  · have hjm : j = m0 := Nat.le_antisymm hj (nI_leD c15 (by omega) (by omega))
    subst hjm
    refine jj_iload X d_ro_findQuickest_91 93 rfl 4 rfl ?_
    exact jj_iret X hr hlk d_ro_findQuickest_93 (⟨by rw [← hf, Nat.sub_self]; rfl, rfl⟩)
  · have hjm : j < m0 := nI_nleD c15 (by omega) (by omega)
    refine jj_aload_n X d_ro_findQuickest_18 19 rfl 0 rfl ?_
    refine jj_iload X d_ro_findQuickest_19 21 rfl 6 rfl ?_
    refine jj_iload_n X d_ro_findQuickest_21 22 rfl 1 rfl ?_
    refine jj_iload_n X d_ro_findQuickest_22 23 rfl 2 rfl ?_
    refine jj_callV0 (st := []) X d_ro_findQuickest_23 26 rfl (c_ro_joins l D cI cZ q A (nI j) a b (vp_in_nI (by omega) (by omega))) g_ro_50 ⟨rfl, w_ro_joins⟩ ⟨(Nat.le_of_ble_eq_true rfl), (Nat.le_of_ble_eq_true rfl)⟩ rfl 2 rfl rfl rfl (Nat.le_of_ble_eq_true rfl) ⟨rfl, rfl⟩ ⟨Nat.zero_le _, Nat.zero_le _⟩ (fun r u hu => ?_)
    obtain ⟨rfl, rfl⟩ := hu
    refine jj_if_eq X d_ro_findQuickest_26 39 29 (by decide) rfl (fun c26 => ?_) (fun c26 => ?_)
    · have c26 := b2_f c26
      refine jj_iconst (v := -1) X d_ro_findQuickest_39 40 rfl (by decide) ?_
      refine jj_istore (lv' := [(0, .ref (q 2)), (1, .int a), (2, .int b), (3, .int (nI e0)), (4, .int best), (5, .int bd), (6, .int (nI j)), (7, .int (-1))]) X d_ro_findQuickest_40 42 rfl (by decide) rfl rfl ?_
      refine jj_iload X d_ro_findQuickest_42 44 rfl 7 rfl ?_
      refine jj_iconst (v := -1) X d_ro_findQuickest_44 45 rfl (by decide) ?_
      refine jj_icmp_eq X d_ro_findQuickest_45 85 48 (by decide) rfl (fun c45 => ?_) (fun c45 => ?_)
      · refine jj_iinc (v := nI (j + 1)) (lv' := [(0, .ref (q 2)), (1, .int a), (2, .int b), (3, .int (nI e0)), (4, .int best), (5, .int bd), (6, .int (nI (j + 1))), (7, .int (-1))]) X d_ro_findQuickest_85 88 rfl 6 rfl (ar_inc _) (by decide) rfl rfl ?_
        refine jj_goto X d_ro_findQuickest_88 9 (by decide) ?_
        refine jj_lvs (lv' := [(0, .ref (q 2)), (1, .int a), (2, .int b), (3, .int (nI e0)), (4, .int best), (5, .int bd), (6, .int (nI (j + 1)))]) (by simp) ?_
        exact ih9 ((j + 1, best, bd)) (⟨by omega, by rw [← hf, x_qk_s hjm]; simp [*]⟩) (by simp only; omega)
      · exact absurd c45 (by decide)
    · have c26 := b2_t c26
      refine jj_aload_n X d_ro_findQuickest_29 30 rfl 0 rfl ?_
      refine jj_iload X d_ro_findQuickest_30 32 rfl 6 rfl ?_
      refine jj_iload_n X d_ro_findQuickest_32 33 rfl 3 rfl ?_
      refine jj_callV0 (st := []) X d_ro_findQuickest_33 36 rfl (c_ro_firstRun l D cI cZ q A n (nI j) e0 hn hle (vp_in_nI (by omega) (by omega)) (he0)) g_ro_54 ⟨rfl, w_ro_firstRun⟩ ⟨(Nat.le_of_ble_eq_true rfl), (Nat.le_of_ble_eq_true rfl)⟩ rfl 2 rfl rfl rfl (Nat.le_of_ble_eq_true rfl) ⟨rfl, rfl⟩ ⟨Nat.zero_le _, Nat.zero_le _⟩ (fun r u hu => ?_)
      obtain ⟨rfl, rfl⟩ := hu
      refine jj_goto X d_ro_findQuickest_36 40 (by decide) ?_
      refine jj_istore (lv' := [(0, .ref (q 2)), (1, .int a), (2, .int b), (3, .int (nI e0)), (4, .int best), (5, .int bd), (6, .int (nI j)), (7, .int (x_fst A n (nI j) (100000 - e0) e0))]) X d_ro_findQuickest_40 42 rfl (by decide) rfl rfl ?_
      refine jj_iload X d_ro_findQuickest_42 44 rfl 7 rfl ?_
      refine jj_iconst (v := -1) X d_ro_findQuickest_44 45 rfl (by decide) ?_
      refine jj_icmp_eq X d_ro_findQuickest_45 85 48 (by decide) rfl (fun c45 => ?_) (fun c45 => ?_)
      · refine jj_iinc (v := nI (j + 1)) (lv' := [(0, .ref (q 2)), (1, .int a), (2, .int b), (3, .int (nI e0)), (4, .int best), (5, .int bd), (6, .int (nI (j + 1))), (7, .int (x_fst A n (nI j) (100000 - e0) e0))]) X d_ro_findQuickest_85 88 rfl 6 rfl (ar_inc _) (by decide) rfl rfl ?_
        refine jj_goto X d_ro_findQuickest_88 9 (by decide) ?_
        refine jj_lvs (lv' := [(0, .ref (q 2)), (1, .int a), (2, .int b), (3, .int (nI e0)), (4, .int best), (5, .int bd), (6, .int (nI (j + 1)))]) (by simp) ?_
        exact ih9 ((j + 1, best, bd)) (⟨by omega, by rw [← hf, x_qk_s hjm]; simp [*]⟩) (by simp only; omega)
      · refine jj_iload X d_ro_findQuickest_48 50 rfl 4 rfl ?_
        refine jj_iconst (v := -1) X d_ro_findQuickest_50 51 rfl (by decide) ?_
        refine jj_icmp_eq X d_ro_findQuickest_51 69 54 (by decide) rfl (fun c51 => ?_) (fun c51 => ?_)
        · refine jj_iload X d_ro_findQuickest_69 71 rfl 6 rfl ?_
          refine jj_istore (lv' := [(0, .ref (q 2)), (1, .int a), (2, .int b), (3, .int (nI e0)), (4, .int (nI j)), (5, .int bd), (6, .int (nI j)), (7, .int (x_fst A n (nI j) (100000 - e0) e0))]) X d_ro_findQuickest_71 73 rfl (by decide) rfl rfl ?_
          refine jj_iload X d_ro_findQuickest_73 75 rfl 7 rfl ?_
          refine jj_aload_n X d_ro_findQuickest_75 76 rfl 0 rfl ?_
          refine jj_get (v := .ref (q 12)) X d_ro_findQuickest_76 79 rfl i_ro 3 f_ro_21 2 rfl rfl (by decide) rfl rfl ?_
          refine jj_iload X d_ro_findQuickest_79 81 rfl 6 rfl ?_
          refine jj_iald (v := A 5 j) X d_ro_findQuickest_81 82 rfl 12 0 rfl rfl (vp_in_nI (by omega) (by omega)) (ar_cl (by omega)) ?_
          refine jj_iadd X d_ro_findQuickest_82 83 rfl ?_
          refine jj_istore (lv' := [(0, .ref (q 2)), (1, .int a), (2, .int b), (3, .int (nI e0)), (4, .int (nI j)), (5, .int ((x_fst A n (nI j) (100000 - e0) e0) + (A 5 j))), (6, .int (nI j)), (7, .int (x_fst A n (nI j) (100000 - e0) e0))]) X d_ro_findQuickest_83 85 rfl (by decide) rfl rfl ?_
          refine jj_iinc (v := nI (j + 1)) (lv' := [(0, .ref (q 2)), (1, .int a), (2, .int b), (3, .int (nI e0)), (4, .int (nI j)), (5, .int ((x_fst A n (nI j) (100000 - e0) e0) + (A 5 j))), (6, .int (nI (j + 1))), (7, .int (x_fst A n (nI j) (100000 - e0) e0))]) X d_ro_findQuickest_85 88 rfl 6 rfl (ar_inc _) (by decide) rfl rfl ?_
          refine jj_goto X d_ro_findQuickest_88 9 (by decide) ?_
          refine jj_lvs (lv' := [(0, .ref (q 2)), (1, .int a), (2, .int b), (3, .int (nI e0)), (4, .int (nI j)), (5, .int ((x_fst A n (nI j) (100000 - e0) e0) + (A 5 j))), (6, .int (nI (j + 1)))]) (by simp) ?_
          exact ih9 ((j + 1, nI j, (x_fst A n (nI j) (100000 - e0) e0) + (A 5 j))) (⟨by omega, by rw [← hf, x_qk_s hjm]; simp [*]⟩) (by simp only; omega)
        · refine jj_iload X d_ro_findQuickest_54 56 rfl 7 rfl ?_
          refine jj_aload_n X d_ro_findQuickest_56 57 rfl 0 rfl ?_
          refine jj_get (v := .ref (q 12)) X d_ro_findQuickest_57 60 rfl i_ro 3 f_ro_21 2 rfl rfl (by decide) rfl rfl ?_
          refine jj_iload X d_ro_findQuickest_60 62 rfl 6 rfl ?_
          refine jj_iald (v := A 5 j) X d_ro_findQuickest_62 63 rfl 12 0 rfl rfl (vp_in_nI (by omega) (by omega)) (ar_cl (by omega)) ?_
          refine jj_iadd X d_ro_findQuickest_63 64 rfl ?_
          refine jj_iload X d_ro_findQuickest_64 66 rfl 5 rfl ?_
          refine jj_icmp_ge X d_ro_findQuickest_66 85 69 (by decide) rfl (fun c66 => ?_) (fun c66 => ?_)
          · have c66 := Int32.not_lt.mpr c66
            refine jj_iinc (v := nI (j + 1)) (lv' := [(0, .ref (q 2)), (1, .int a), (2, .int b), (3, .int (nI e0)), (4, .int best), (5, .int bd), (6, .int (nI (j + 1))), (7, .int (x_fst A n (nI j) (100000 - e0) e0))]) X d_ro_findQuickest_85 88 rfl 6 rfl (ar_inc _) (by decide) rfl rfl ?_
            refine jj_goto X d_ro_findQuickest_88 9 (by decide) ?_
            refine jj_lvs (lv' := [(0, .ref (q 2)), (1, .int a), (2, .int b), (3, .int (nI e0)), (4, .int best), (5, .int bd), (6, .int (nI (j + 1)))]) (by simp) ?_
            exact ih9 ((j + 1, best, bd)) (⟨by omega, by rw [← hf, x_qk_s hjm]; simp [*]⟩) (by simp only; omega)
          · have c66 := Int32.not_le.mp c66
            refine jj_iload X d_ro_findQuickest_69 71 rfl 6 rfl ?_
            refine jj_istore (lv' := [(0, .ref (q 2)), (1, .int a), (2, .int b), (3, .int (nI e0)), (4, .int (nI j)), (5, .int bd), (6, .int (nI j)), (7, .int (x_fst A n (nI j) (100000 - e0) e0))]) X d_ro_findQuickest_71 73 rfl (by decide) rfl rfl ?_
            refine jj_iload X d_ro_findQuickest_73 75 rfl 7 rfl ?_
            refine jj_aload_n X d_ro_findQuickest_75 76 rfl 0 rfl ?_
            refine jj_get (v := .ref (q 12)) X d_ro_findQuickest_76 79 rfl i_ro 3 f_ro_21 2 rfl rfl (by decide) rfl rfl ?_
            refine jj_iload X d_ro_findQuickest_79 81 rfl 6 rfl ?_
            refine jj_iald (v := A 5 j) X d_ro_findQuickest_81 82 rfl 12 0 rfl rfl (vp_in_nI (by omega) (by omega)) (ar_cl (by omega)) ?_
            refine jj_iadd X d_ro_findQuickest_82 83 rfl ?_
            refine jj_istore (lv' := [(0, .ref (q 2)), (1, .int a), (2, .int b), (3, .int (nI e0)), (4, .int (nI j)), (5, .int ((x_fst A n (nI j) (100000 - e0) e0) + (A 5 j))), (6, .int (nI j)), (7, .int (x_fst A n (nI j) (100000 - e0) e0))]) X d_ro_findQuickest_83 85 rfl (by decide) rfl rfl ?_
            refine jj_iinc (v := nI (j + 1)) (lv' := [(0, .ref (q 2)), (1, .int a), (2, .int b), (3, .int (nI e0)), (4, .int (nI j)), (5, .int ((x_fst A n (nI j) (100000 - e0) e0) + (A 5 j))), (6, .int (nI (j + 1))), (7, .int (x_fst A n (nI j) (100000 - e0) e0))]) X d_ro_findQuickest_85 88 rfl 6 rfl (ar_inc _) (by decide) rfl rfl ?_
            refine jj_goto X d_ro_findQuickest_88 9 (by decide) ?_
            refine jj_lvs (lv' := [(0, .ref (q 2)), (1, .int a), (2, .int b), (3, .int (nI e0)), (4, .int (nI j)), (5, .int ((x_fst A n (nI j) (100000 - e0) e0) + (A 5 j))), (6, .int (nI (j + 1)))]) (by simp) ?_
            exact ih9 ((j + 1, nI j, (x_fst A n (nI j) (100000 - e0) e0) + (A 5 j))) (⟨by omega, by rw [← hf, x_qk_s hjm]; simp [*]⟩) (by simp only; omega)
set_option maxRecDepth 100000 in
set_option maxHeartbeats 4000000 in
theorem c_sl_isUnderWay (l : Launch) (D : va_G) (cI cZ : ClassId) (q : Nat → Nat) (A : Rows) (x : Int32) (hx : vp_in x 151) : mt_I l D cls_ [(cI, .int), (cZ, .boolean)] nst_ y_sl_isUnderWay (Cond.code y_sl_isUnderWay b_sl_isUnderWay 2 (some .boolean) :: gt_) (rmd 0) [.ref (q 5), .int x] (tw cI cZ q A) (fun r u => r = b2 (uwC A x) ∧ u = tw cI cZ q A) := by
  refine mt_I_of (by decide) (Nat.le_of_ble_eq_true rfl) ?_
  intro p e s m below meth c AA X hr hlk
  refine jj_lve (lv' := [(0, .ref (q 5)), (1, .int x)]) rfl ?_
  refine jj_aload_n X d_sl_isUnderWay_0 1 rfl 0 rfl ?_
  refine jj_get (v := .ref (q 24)) X d_sl_isUnderWay_1 4 rfl i_sl 2 f_sl_18 5 rfl rfl (by decide) rfl rfl ?_
  refine jj_iload_n X d_sl_isUnderWay_4 5 rfl 1 rfl ?_
  refine jj_iald (v := A 17 x.toNatClampNeg) X d_sl_isUnderWay_5 6 rfl 24 0 rfl rfl (by assumption) (rfl) ?_
  refine jj_iconst (v := 1) X d_sl_isUnderWay_6 7 rfl (by decide) ?_
  refine jj_icmp_eq X d_sl_isUnderWay_7 20 10 (by decide) rfl (fun c7 => ?_) (fun c7 => ?_)
  · refine jj_iconst (v := 1) X d_sl_isUnderWay_20 21 rfl (by decide) ?_
    refine jj_goto X d_sl_isUnderWay_21 25 (by decide) ?_
    exact jj_zret X hr hlk d_sl_isUnderWay_25 (rfl) (⟨by simp [uwC, b2, *], rfl⟩)
  · refine jj_aload_n X d_sl_isUnderWay_10 11 rfl 0 rfl ?_
    refine jj_get (v := .ref (q 24)) X d_sl_isUnderWay_11 14 rfl i_sl 2 f_sl_18 5 rfl rfl (by decide) rfl rfl ?_
    refine jj_iload_n X d_sl_isUnderWay_14 15 rfl 1 rfl ?_
    refine jj_iald (v := A 17 x.toNatClampNeg) X d_sl_isUnderWay_15 16 rfl 24 0 rfl rfl (by assumption) (rfl) ?_
    refine jj_iconst (v := 3) X d_sl_isUnderWay_16 17 rfl (by decide) ?_
    refine jj_icmp_ne X d_sl_isUnderWay_17 24 20 (by decide) rfl (fun c17 => ?_) (fun c17 => ?_)
    · refine jj_iconst (v := 0) X d_sl_isUnderWay_24 25 rfl (by decide) ?_
      exact jj_zret X hr hlk d_sl_isUnderWay_25 (rfl) (⟨by simp [uwC, b2, *], rfl⟩)
    · refine jj_iconst (v := 1) X d_sl_isUnderWay_20 21 rfl (by decide) ?_
      refine jj_goto X d_sl_isUnderWay_21 25 (by decide) ?_
      exact jj_zret X hr hlk d_sl_isUnderWay_25 (rfl) (⟨by simp [uwC, b2, *], rfl⟩)
set_option maxRecDepth 100000 in
set_option maxHeartbeats 4000000 in
theorem c_sl_add (l : Launch) (D : va_G) (cI cZ : ClassId) (q : Nat → Nat) (A : Rows) (n : Nat) (a1 a2 a3 a4 : Int32) (hn : A 0 4 = nI n) (hle : n < 150) : mt_I l D cls_ [(cI, .int), (cZ, .boolean)] nst_ y_sl_add (Cond.code y_sl_add b_sl_add 5 (some .int) :: gt_) (rmd 0) [.ref (q 5), .int a1, .int a2, .int a3, .int a4] (tw cI cZ q A) (fun r u => r = nI (n + 1) ∧ u = tw cI cZ q ((ua (ua (ua (ua (ua (ua (ua A 0 (uz (A 0) 4 (nI (n + 1)))) 15 (upd (A 15) (n + 1) a1)) 16 (upd (A 16) (n + 1) a2)) 17 (upd (A 17) (n + 1) 0)) 18 (upd (A 18) (n + 1) a3)) 19 (upd (A 19) (n + 1) a4)) 20 (upd (A 20) (n + 1) (-1))))) := by
  refine mt_I_of (by decide) (Nat.le_of_ble_eq_true rfl) ?_
  intro p e s m below meth c AA X hr hlk
  refine jj_lve (lv' := [(0, .ref (q 5)), (1, .int a1), (2, .int a2), (3, .int a3), (4, .int a4)]) rfl ?_
  refine jj_aload_n X d_sl_add_0 1 rfl 0 rfl ?_
  refine jj_dup X d_sl_add_1 2 rfl rfl ?_
  refine jj_get (v := .int (nI n)) X d_sl_add_2 5 rfl i_sl 6 f_sl_30 5 rfl rfl (by decide) rfl (by rw [← hn]; rfl) ?_
  refine jj_iconst (v := 1) X d_sl_add_5 6 rfl (by decide) ?_
  refine jj_iadd X d_sl_add_6 7 rfl ?_
  refine jj_topv (y := nI (n + 1)) (nI_1 _) ?_
  refine jj_put (ty := .int) (ws' := tw cI cZ q ((ua A 0 (uz (A 0) 4 (nI (n + 1)))))) X d_sl_add_7 10 rfl i_sl t_sl t_sl_ok n_sl 6 f_sl_30 5 rfl rfl (by decide) rfl rfl (by decide +kernel) rfl rfl (Nat.le_of_ble_eq_true rfl) rfl ?_
  refine jj_aload_n X d_sl_add_10 11 rfl 0 rfl ?_
  refine jj_get (v := .ref (q 22)) X d_sl_add_11 14 rfl i_sl 0 f_sl_9 5 rfl rfl (by decide) rfl rfl ?_
  refine jj_aload_n X d_sl_add_14 15 rfl 0 rfl ?_
  refine jj_get (v := .int (nI (n + 1))) X d_sl_add_15 18 rfl i_sl 6 f_sl_30 5 rfl rfl (by decide) rfl rfl ?_
  refine jj_iload_n X d_sl_add_18 19 rfl 1 rfl ?_
  refine jj_iast (ws' := tw cI cZ q ((ua (ua A 0 (uz (A 0) 4 (nI (n + 1)))) 15 (upd (A 15) ((n + 1)) a1)))) X d_sl_add_19 20 rfl 22 0 rfl rfl (vp_in_nI (by omega) (by omega)) (by rw [nI_clamp (by omega)]; rfl) ?_
  refine jj_aload_n X d_sl_add_20 21 rfl 0 rfl ?_
  refine jj_get (v := .ref (q 23)) X d_sl_add_21 24 rfl i_sl 1 f_sl_15 5 rfl rfl (by decide) rfl rfl ?_
  refine jj_aload_n X d_sl_add_24 25 rfl 0 rfl ?_
  refine jj_get (v := .int (nI (n + 1))) X d_sl_add_25 28 rfl i_sl 6 f_sl_30 5 rfl rfl (by decide) rfl rfl ?_
  refine jj_iload_n X d_sl_add_28 29 rfl 2 rfl ?_
  refine jj_iast (ws' := tw cI cZ q ((ua (ua (ua A 0 (uz (A 0) 4 (nI (n + 1)))) 15 (upd (A 15) ((n + 1)) a1)) 16 (upd (A 16) ((n + 1)) a2)))) X d_sl_add_29 30 rfl 23 0 rfl rfl (vp_in_nI (by omega) (by omega)) (by rw [nI_clamp (by omega)]; rfl) ?_
  refine jj_aload_n X d_sl_add_30 31 rfl 0 rfl ?_
  refine jj_get (v := .ref (q 24)) X d_sl_add_31 34 rfl i_sl 2 f_sl_18 5 rfl rfl (by decide) rfl rfl ?_
  refine jj_aload_n X d_sl_add_34 35 rfl 0 rfl ?_
  refine jj_get (v := .int (nI (n + 1))) X d_sl_add_35 38 rfl i_sl 6 f_sl_30 5 rfl rfl (by decide) rfl rfl ?_
  refine jj_iconst (v := 0) X d_sl_add_38 39 rfl (by decide) ?_
  refine jj_iast (ws' := tw cI cZ q ((ua (ua (ua (ua A 0 (uz (A 0) 4 (nI (n + 1)))) 15 (upd (A 15) ((n + 1)) a1)) 16 (upd (A 16) ((n + 1)) a2)) 17 (upd (A 17) ((n + 1)) 0)))) X d_sl_add_39 40 rfl 24 0 rfl rfl (vp_in_nI (by omega) (by omega)) (by rw [nI_clamp (by omega)]; rfl) ?_
  refine jj_aload_n X d_sl_add_40 41 rfl 0 rfl ?_
  refine jj_get (v := .ref (q 25)) X d_sl_add_41 44 rfl i_sl 3 f_sl_21 5 rfl rfl (by decide) rfl rfl ?_
  refine jj_aload_n X d_sl_add_44 45 rfl 0 rfl ?_
  refine jj_get (v := .int (nI (n + 1))) X d_sl_add_45 48 rfl i_sl 6 f_sl_30 5 rfl rfl (by decide) rfl rfl ?_
  refine jj_iload_n X d_sl_add_48 49 rfl 3 rfl ?_
  refine jj_iast (ws' := tw cI cZ q ((ua (ua (ua (ua (ua A 0 (uz (A 0) 4 (nI (n + 1)))) 15 (upd (A 15) ((n + 1)) a1)) 16 (upd (A 16) ((n + 1)) a2)) 17 (upd (A 17) ((n + 1)) 0)) 18 (upd (A 18) ((n + 1)) a3)))) X d_sl_add_49 50 rfl 25 0 rfl rfl (vp_in_nI (by omega) (by omega)) (by rw [nI_clamp (by omega)]; rfl) ?_
  refine jj_aload_n X d_sl_add_50 51 rfl 0 rfl ?_
  refine jj_get (v := .ref (q 26)) X d_sl_add_51 54 rfl i_sl 4 f_sl_24 5 rfl rfl (by decide) rfl rfl ?_
  refine jj_aload_n X d_sl_add_54 55 rfl 0 rfl ?_
  refine jj_get (v := .int (nI (n + 1))) X d_sl_add_55 58 rfl i_sl 6 f_sl_30 5 rfl rfl (by decide) rfl rfl ?_
  refine jj_iload X d_sl_add_58 60 rfl 4 rfl ?_
  refine jj_iast (ws' := tw cI cZ q ((ua (ua (ua (ua (ua (ua A 0 (uz (A 0) 4 (nI (n + 1)))) 15 (upd (A 15) ((n + 1)) a1)) 16 (upd (A 16) ((n + 1)) a2)) 17 (upd (A 17) ((n + 1)) 0)) 18 (upd (A 18) ((n + 1)) a3)) 19 (upd (A 19) ((n + 1)) a4)))) X d_sl_add_60 61 rfl 26 0 rfl rfl (vp_in_nI (by omega) (by omega)) (by rw [nI_clamp (by omega)]; rfl) ?_
  refine jj_aload_n X d_sl_add_61 62 rfl 0 rfl ?_
  refine jj_get (v := .ref (q 27)) X d_sl_add_62 65 rfl i_sl 5 f_sl_27 5 rfl rfl (by decide) rfl rfl ?_
  refine jj_aload_n X d_sl_add_65 66 rfl 0 rfl ?_
  refine jj_get (v := .int (nI (n + 1))) X d_sl_add_66 69 rfl i_sl 6 f_sl_30 5 rfl rfl (by decide) rfl rfl ?_
  refine jj_iconst (v := -1) X d_sl_add_69 70 rfl (by decide) ?_
  refine jj_iast (ws' := tw cI cZ q ((ua (ua (ua (ua (ua (ua (ua A 0 (uz (A 0) 4 (nI (n + 1)))) 15 (upd (A 15) ((n + 1)) a1)) 16 (upd (A 16) ((n + 1)) a2)) 17 (upd (A 17) ((n + 1)) 0)) 18 (upd (A 18) ((n + 1)) a3)) 19 (upd (A 19) ((n + 1)) a4)) 20 (upd (A 20) ((n + 1)) (-1))))) X d_sl_add_70 71 rfl 27 0 rfl rfl (vp_in_nI (by omega) (by omega)) (by rw [nI_clamp (by omega)]; rfl) ?_
  refine jj_aload_n X d_sl_add_71 72 rfl 0 rfl ?_
  refine jj_get (v := .int (nI (n + 1))) X d_sl_add_72 75 rfl i_sl 6 f_sl_30 5 rfl rfl (by decide) rfl rfl ?_
  exact jj_iret X hr hlk d_sl_add_75 (⟨rfl, rfl⟩)
set_option maxRecDepth 100000 in
set_option maxHeartbeats 4000000 in
theorem c_te_add (l : Launch) (D : va_G) (cI cZ : ClassId) (q : Nat → Nat) (A : Rows) (n : Nat) (a b : Int32) (hn : A 0 6 = nI n) (hle : n ≤ 100) : mt_V l D cls_ [(cI, .int), (cZ, .boolean)] nst_ y_te_add (Cond.code y_te_add b_te_add 3 none :: gt_) (rmd 0) [.ref (q 7), .int a, .int b] (tw cI cZ q A) (fun u => u = tw cI cZ q (if n < 100 then (ua (ua (ua A 0 (uz (A 0) 6 (nI (n + 1)))) 23 (upd (A 23) n a)) 24 (upd (A 24) n b)) else A)) := by
  refine mt_V_of (by decide) (Nat.le_of_ble_eq_true rfl) ?_
  intro p e s m below meth c AA X hr hlk hnm
  refine jj_lve (lv' := [(0, .ref (q 7)), (1, .int a), (2, .int b)]) rfl ?_
  refine jj_aload_n X d_te_add_0 1 rfl 0 rfl ?_
  refine jj_get (v := .int (nI n)) X d_te_add_1 4 rfl i_te 2 f_te_18 7 rfl rfl (by decide) rfl (by rw [← hn]; rfl) ?_
  refine jj_bipush (v := 100) X d_te_add_4 6 rfl (by decide) ?_
  refine jj_icmp_ge X d_te_add_6 39 9 (by decide) rfl (fun c6 => ?_) (fun c6 => ?_)
  · have hnn : ¬ n < 100 := by have := nI_leD (a := 100) (b := n) c6 (by omega) (by omega); omega
    exact jj_vret X hr hlk d_te_add_39 (by simp [hnn])
  · have hnn : n < 100 := nI_nleD (a := 100) (b := n) c6 (by omega) (by omega)
    refine jj_aload_n X d_te_add_9 10 rfl 0 rfl ?_
    refine jj_get (v := .ref (q 30)) X d_te_add_10 13 rfl i_te 0 f_te_9 7 rfl rfl (by decide) rfl rfl ?_
    refine jj_aload_n X d_te_add_13 14 rfl 0 rfl ?_
    refine jj_get (v := .int (nI n)) X d_te_add_14 17 rfl i_te 2 f_te_18 7 rfl rfl (by decide) rfl (by rw [← hn]; rfl) ?_
    refine jj_iload_n X d_te_add_17 18 rfl 1 rfl ?_
    refine jj_iast (ws' := tw cI cZ q ((ua A 23 (upd (A 23) n a)))) X d_te_add_18 19 rfl 30 0 rfl rfl (vp_in_nI (by omega) (by omega)) (by rw [nI_clamp (by omega)]; rfl) ?_
    refine jj_aload_n X d_te_add_19 20 rfl 0 rfl ?_
    refine jj_get (v := .ref (q 31)) X d_te_add_20 23 rfl i_te 1 f_te_15 7 rfl rfl (by decide) rfl rfl ?_
    refine jj_aload_n X d_te_add_23 24 rfl 0 rfl ?_
    refine jj_get (v := .int (nI n)) X d_te_add_24 27 rfl i_te 2 f_te_18 7 rfl rfl (by decide) rfl (by rw [← hn]; rfl) ?_
    refine jj_iload_n X d_te_add_27 28 rfl 2 rfl ?_
    refine jj_iast (ws' := tw cI cZ q ((ua (ua A 23 (upd (A 23) n a)) 24 (upd (A 24) n b)))) X d_te_add_28 29 rfl 31 0 rfl rfl (vp_in_nI (by omega) (by omega)) (by rw [nI_clamp (by omega)]; rfl) ?_
    refine jj_aload_n X d_te_add_29 30 rfl 0 rfl ?_
    refine jj_dup X d_te_add_30 31 rfl rfl ?_
    refine jj_get (v := .int (nI n)) X d_te_add_31 34 rfl i_te 2 f_te_18 7 rfl rfl (by decide) rfl (by rw [← hn]; rfl) ?_
    refine jj_iconst (v := 1) X d_te_add_34 35 rfl (by decide) ?_
    refine jj_iadd X d_te_add_35 36 rfl ?_
    refine jj_topv (y := nI (n + 1)) (nI_1 _) ?_
    refine jj_put (ty := .int) (ws' := tw cI cZ q ((ua (ua (ua A 0 (uz (A 0) 6 (nI (n + 1)))) 23 (upd (A 23) n a)) 24 (upd (A 24) n b)))) X d_te_add_36 39 rfl i_te t_te t_te_ok n_te 2 f_te_18 7 rfl rfl (by decide) rfl rfl (by decide +kernel) rfl rfl (Nat.le_of_ble_eq_true rfl) rfl ?_
    exact jj_vret X hr hlk d_te_add_39 (by simp [hnn])
