set_option maxRecDepth 100000 in
set_option maxHeartbeats 4000000 in
theorem c_mo_thrown (l : Launch) (D : va_G) (cI cZ : ClassId) (q : Nat → Nat) (A : Rows) : mt_I l D cls_ [(cI, .int), (cZ, .boolean)] nst_ y_mo_thrown (Cond.code y_mo_thrown b_mo_thrown 1 (some .int) :: gt_) (rmd 0) [.ref (q 0)] (mw cI cZ q A) (fun r u => r = A 0 7 ∧ u = mw cI cZ q A) := by
  refine mt_I_of (by decide) (Nat.le_of_ble_eq_true rfl) ?_
  intro p e s m below meth c AA X hr hlk
  refine jj_lve (lv' := [(0, .ref (q 0))]) rfl ?_
  refine jj_aload_n X d_mo_thrown_0 1 rfl 0 rfl ?_
  refine jj_get (v := .int (A 0 7)) X d_mo_thrown_1 4 rfl i_mo 0 f_mo_38 0 rfl rfl (by decide) rfl rfl ?_
  exact jj_iret X hr hlk d_mo_thrown_4 (⟨rfl, rfl⟩)
set_option maxRecDepth 100000 in
set_option maxHeartbeats 4000000 in
theorem c_mo_isPlace (l : Launch) (D : va_G) (cI cZ : ClassId) (q : Nat → Nat) (A : Rows) (nP : Nat) (x : Int32) (hnP : A 0 0 = nI nP) (hlP : nP ≤ 12) : mt_I l D cls_ [(cI, .int), (cZ, .boolean)] nst_ y_mo_isPlace (Cond.code y_mo_isPlace b_mo_isPlace 2 (some .boolean) :: gt_) (rmd 0) [.ref (q 0), .int x] (mw cI cZ q A) (fun r u => r = b2 (hN (nI nP) x) ∧ u = mw cI cZ q A) := by
  refine mt_I_of (by decide) (Nat.le_of_ble_eq_true rfl) ?_
  intro p e s m below meth c AA X hr hlk
  refine jj_lve (lv' := [(0, .ref (q 0)), (1, .int x)]) rfl ?_
  refine jj_iload_n X d_mo_isPlace_0 1 rfl 1 rfl ?_
  refine jj_if_lt X d_mo_isPlace_1 16 4 (by decide) rfl (fun c1 => ?_) (fun c1 => ?_)
  · refine jj_iconst (v := 0) X d_mo_isPlace_16 17 rfl (by decide) ?_
    exact jj_zret X hr hlk d_mo_isPlace_17 (rfl) (⟨by simp [hN, b2, *], rfl⟩)
  · refine jj_iload_n X d_mo_isPlace_4 5 rfl 1 rfl ?_
    refine jj_aload_n X d_mo_isPlace_5 6 rfl 0 rfl ?_
    refine jj_get (v := .int (nI nP)) X d_mo_isPlace_6 9 rfl i_mo 1 f_mo_42 0 rfl rfl (by decide) rfl (by rw [← hnP]; rfl) ?_
    refine jj_icmp_ge X d_mo_isPlace_9 16 12 (by decide) rfl (fun c9 => ?_) (fun c9 => ?_)
    · refine jj_iconst (v := 0) X d_mo_isPlace_16 17 rfl (by decide) ?_
      exact jj_zret X hr hlk d_mo_isPlace_17 (rfl) (⟨by simp [hN, b2, *], rfl⟩)
    · refine jj_iconst (v := 1) X d_mo_isPlace_12 13 rfl (by decide) ?_
      refine jj_goto X d_mo_isPlace_13 17 (by decide) ?_
      exact jj_zret X hr hlk d_mo_isPlace_17 (rfl) (⟨by simp [hN, b2, *], rfl⟩)
set_option maxRecDepth 100000 in
set_option maxHeartbeats 4000000 in
theorem c_mo_isRoute (l : Launch) (D : va_G) (cI cZ : ClassId) (q : Nat → Nat) (A : Rows) (nR : Nat) (x : Int32) (hnR : A 0 1 = nI nR) (hlR : nR ≤ 40) : mt_I l D cls_ [(cI, .int), (cZ, .boolean)] nst_ y_mo_isRoute (Cond.code y_mo_isRoute b_mo_isRoute 2 (some .boolean) :: gt_) (rmd 0) [.ref (q 0), .int x] (mw cI cZ q A) (fun r u => r = b2 (hN (nI nR) x) ∧ u = mw cI cZ q A) := by
  refine mt_I_of (by decide) (Nat.le_of_ble_eq_true rfl) ?_
  intro p e s m below meth c AA X hr hlk
  refine jj_lve (lv' := [(0, .ref (q 0)), (1, .int x)]) rfl ?_
  refine jj_iload_n X d_mo_isRoute_0 1 rfl 1 rfl ?_
  refine jj_if_lt X d_mo_isRoute_1 16 4 (by decide) rfl (fun c1 => ?_) (fun c1 => ?_)
  · refine jj_iconst (v := 0) X d_mo_isRoute_16 17 rfl (by decide) ?_
    exact jj_zret X hr hlk d_mo_isRoute_17 (rfl) (⟨by simp [hN, b2, *], rfl⟩)
  · refine jj_iload_n X d_mo_isRoute_4 5 rfl 1 rfl ?_
    refine jj_aload_n X d_mo_isRoute_5 6 rfl 0 rfl ?_
    refine jj_get (v := .int (nI nR)) X d_mo_isRoute_6 9 rfl i_mo 3 f_mo_45 0 rfl rfl (by decide) rfl (by rw [← hnR]; rfl) ?_
    refine jj_icmp_ge X d_mo_isRoute_9 16 12 (by decide) rfl (fun c9 => ?_) (fun c9 => ?_)
    · refine jj_iconst (v := 0) X d_mo_isRoute_16 17 rfl (by decide) ?_
      exact jj_zret X hr hlk d_mo_isRoute_17 (rfl) (⟨by simp [hN, b2, *], rfl⟩)
    · refine jj_iconst (v := 1) X d_mo_isRoute_12 13 rfl (by decide) ?_
      refine jj_goto X d_mo_isRoute_13 17 (by decide) ?_
      exact jj_zret X hr hlk d_mo_isRoute_17 (rfl) (⟨by simp [hN, b2, *], rfl⟩)
set_option maxRecDepth 100000 in
set_option maxHeartbeats 4000000 in
theorem c_mo_isCopy (l : Launch) (D : va_G) (cI cZ : ClassId) (q : Nat → Nat) (A : Rows) (nC : Nat) (x : Int32) (hnC : A 0 3 = nI nC) (hlC : nC ≤ 60) : mt_I l D cls_ [(cI, .int), (cZ, .boolean)] nst_ y_mo_isCopy (Cond.code y_mo_isCopy b_mo_isCopy 2 (some .boolean) :: gt_) (rmd 0) [.ref (q 0), .int x] (mw cI cZ q A) (fun r u => r = b2 (h1 (nI nC) x) ∧ u = mw cI cZ q A) := by
  refine mt_I_of (by decide) (Nat.le_of_ble_eq_true rfl) ?_
  intro p e s m below meth c AA X hr hlk
  refine jj_lve (lv' := [(0, .ref (q 0)), (1, .int x)]) rfl ?_
  refine jj_iload_n X d_mo_isCopy_0 1 rfl 1 rfl ?_
  refine jj_if_le X d_mo_isCopy_1 16 4 (by decide) rfl (fun c1 => ?_) (fun c1 => ?_)
  · have c1 := le0_lt1.mp c1
    refine jj_iconst (v := 0) X d_mo_isCopy_16 17 rfl (by decide) ?_
    exact jj_zret X hr hlk d_mo_isCopy_17 (rfl) (⟨by simp [h1, b2, *], rfl⟩)
  · have c1 : ¬ x < 1 := fun q9 => c1 (le0_lt1.mpr q9)
    refine jj_iload_n X d_mo_isCopy_4 5 rfl 1 rfl ?_
    refine jj_aload_n X d_mo_isCopy_5 6 rfl 0 rfl ?_
    refine jj_get (v := .int (nI nC)) X d_mo_isCopy_6 9 rfl i_mo 8 f_mo_48 0 rfl rfl (by decide) rfl (by rw [← hnC]; rfl) ?_
    refine jj_icmp_gt X d_mo_isCopy_9 16 12 (by decide) rfl (fun c9 => ?_) (fun c9 => ?_)
    · refine jj_iconst (v := 0) X d_mo_isCopy_16 17 rfl (by decide) ?_
      exact jj_zret X hr hlk d_mo_isCopy_17 (rfl) (⟨by simp [h1, b2, *], rfl⟩)
    · refine jj_iconst (v := 1) X d_mo_isCopy_12 13 rfl (by decide) ?_
      refine jj_goto X d_mo_isCopy_13 17 (by decide) ?_
      exact jj_zret X hr hlk d_mo_isCopy_17 (rfl) (⟨by simp [h1, b2, *], rfl⟩)
set_option maxRecDepth 100000 in
set_option maxHeartbeats 4000000 in
theorem c_mo_isSlip (l : Launch) (D : va_G) (cI cZ : ClassId) (q : Nat → Nat) (A : Rows) (nS : Nat) (x : Int32) (hnS : A 0 4 = nI nS) (hlS : nS ≤ 150) : mt_I l D cls_ [(cI, .int), (cZ, .boolean)] nst_ y_mo_isSlip (Cond.code y_mo_isSlip b_mo_isSlip 2 (some .boolean) :: gt_) (rmd 0) [.ref (q 0), .int x] (mw cI cZ q A) (fun r u => r = b2 (h1 (nI nS) x) ∧ u = mw cI cZ q A) := by
  refine mt_I_of (by decide) (Nat.le_of_ble_eq_true rfl) ?_
  intro p e s m below meth c AA X hr hlk
  refine jj_lve (lv' := [(0, .ref (q 0)), (1, .int x)]) rfl ?_
  refine jj_iload_n X d_mo_isSlip_0 1 rfl 1 rfl ?_
  refine jj_if_le X d_mo_isSlip_1 16 4 (by decide) rfl (fun c1 => ?_) (fun c1 => ?_)
  · have c1 := le0_lt1.mp c1
    refine jj_iconst (v := 0) X d_mo_isSlip_16 17 rfl (by decide) ?_
    exact jj_zret X hr hlk d_mo_isSlip_17 (rfl) (⟨by simp [h1, b2, *], rfl⟩)
  · have c1 : ¬ x < 1 := fun q9 => c1 (le0_lt1.mpr q9)
    refine jj_iload_n X d_mo_isSlip_4 5 rfl 1 rfl ?_
    refine jj_aload_n X d_mo_isSlip_5 6 rfl 0 rfl ?_
    refine jj_get (v := .int (nI nS)) X d_mo_isSlip_6 9 rfl i_mo 12 f_mo_51 0 rfl rfl (by decide) rfl (by rw [← hnS]; rfl) ?_
    refine jj_icmp_gt X d_mo_isSlip_9 16 12 (by decide) rfl (fun c9 => ?_) (fun c9 => ?_)
    · refine jj_iconst (v := 0) X d_mo_isSlip_16 17 rfl (by decide) ?_
      exact jj_zret X hr hlk d_mo_isSlip_17 (rfl) (⟨by simp [h1, b2, *], rfl⟩)
    · refine jj_iconst (v := 1) X d_mo_isSlip_12 13 rfl (by decide) ?_
      refine jj_goto X d_mo_isSlip_13 17 (by decide) ?_
      exact jj_zret X hr hlk d_mo_isSlip_17 (rfl) (⟨by simp [h1, b2, *], rfl⟩)
set_option maxRecDepth 100000 in
set_option maxHeartbeats 4000000 in
theorem c_mo_isDay (l : Launch) (D : va_G) (cI cZ : ClassId) (q : Nat → Nat) (A : Rows) (x : Int32) : mt_I l D cls_ [(cI, .int), (cZ, .boolean)] nst_ y_mo_isDay (Cond.code y_mo_isDay b_mo_isDay 1 (some .boolean) :: gt_) (rmd 0) [.int x] (mw cI cZ q A) (fun r u => r = b2 (dC x) ∧ u = mw cI cZ q A) := by
  refine mt_I_of (by decide) (Nat.le_of_ble_eq_true rfl) ?_
  intro p e s m below meth c AA X hr hlk
  refine jj_lve (lv' := [(0, .int x)]) rfl ?_
  refine jj_iload_n X d_mo_isDay_0 1 rfl 0 rfl ?_
  refine jj_if_lt X d_mo_isDay_1 14 4 (by decide) rfl (fun c1 => ?_) (fun c1 => ?_)
  · refine jj_iconst (v := 0) X d_mo_isDay_14 15 rfl (by decide) ?_
    exact jj_zret X hr hlk d_mo_isDay_15 (rfl) (⟨by simp [dC, b2, *], rfl⟩)
  · refine jj_iload_n X d_mo_isDay_4 5 rfl 0 rfl ?_
    refine jj_ldc (v := 100000) X d_mo_isDay_5 7 rfl o_mo_54 ?_
    refine jj_icmp_ge X d_mo_isDay_7 14 10 (by decide) rfl (fun c7 => ?_) (fun c7 => ?_)
    · have c7 := d_m.mp c7
      refine jj_iconst (v := 0) X d_mo_isDay_14 15 rfl (by decide) ?_
      exact jj_zret X hr hlk d_mo_isDay_15 (rfl) (⟨by simp [dC, b2, *], rfl⟩)
    · have c7 : ¬ 99999 < x := fun q9 => c7 (d_m.mpr q9)
      refine jj_iconst (v := 1) X d_mo_isDay_10 11 rfl (by decide) ?_
      refine jj_goto X d_mo_isDay_11 15 (by decide) ?_
      exact jj_zret X hr hlk d_mo_isDay_15 (rfl) (⟨by simp [dC, b2, *], rfl⟩)
set_option maxRecDepth 100000 in
set_option maxHeartbeats 4000000 in
theorem c_mo_place (l : Launch) (D : va_G) (cI cZ : ClassId) (q : Nat → Nat) (A : Rows) (nP : Nat) (hnP : A 0 0 = nI nP) (hlP : nP ≤ 12) : mt_I l D cls_ [(cI, .int), (cZ, .boolean)] nst_ y_mo_place (Cond.code y_mo_place b_mo_place 1 (some .int) :: gt_) (rmd 0) [.ref (q 0)] (mw cI cZ q A) (fun r u => r = (if nP = 12 then -1 else nI nP) ∧ u = mw cI cZ q (if nP = 12 then (ua A 0 (uz (A 0) 7 0)) else (ua A 0 (uz (uz (A 0) 7 0) 0 (nI (nP + 1)))))) := by
  refine mt_I_of (by decide) (Nat.le_of_ble_eq_true rfl) ?_
  intro p e s m below meth c AA X hr hlk
  refine jj_lve (lv' := [(0, .ref (q 0))]) rfl ?_
  refine jj_aload_n X d_mo_place_0 1 rfl 0 rfl ?_
  refine jj_iconst (v := 0) X d_mo_place_1 2 rfl (by decide) ?_
  refine jj_put (ty := .int) (ws' := mw cI cZ q ((ua A 0 (uz (A 0) 7 0)))) X d_mo_place_2 5 rfl i_mo t_mo t_mo_ok n_mo 0 f_mo_38 0 rfl rfl (by decide) rfl rfl (by decide +kernel) rfl rfl (Nat.le_of_ble_eq_true rfl) rfl ?_
  refine jj_aload_n X d_mo_place_5 6 rfl 0 rfl ?_
  refine jj_get (v := .int (nI nP)) X d_mo_place_6 9 rfl i_mo 1 f_mo_42 0 rfl rfl (by decide) rfl (by rw [← hnP]; rfl) ?_
  refine jj_bipush (v := 12) X d_mo_place_9 11 rfl (by decide) ?_
  refine jj_icmp_ne X d_mo_place_11 16 14 (by decide) rfl (fun c11 => ?_) (fun c11 => ?_)
  · have hne : nP ≠ 12 := nI_neD c11
    refine jj_aload_n X d_mo_place_16 17 rfl 0 rfl ?_
    refine jj_dup X d_mo_place_17 18 rfl rfl ?_
    refine jj_get (v := .int (nI nP)) X d_mo_place_18 21 rfl i_mo 1 f_mo_42 0 rfl rfl (by decide) rfl (by rw [← hnP]; rfl) ?_
    refine jj_iconst (v := 1) X d_mo_place_21 22 rfl (by decide) ?_
    refine jj_iadd X d_mo_place_22 23 rfl ?_
    refine jj_topv (y := nI (nP + 1)) (nI_1 _) ?_
    refine jj_put (ty := .int) (ws' := mw cI cZ q ((ua A 0 (uz (uz (A 0) 7 0) 0 (nI (nP + 1)))))) X d_mo_place_23 26 rfl i_mo t_mo t_mo_ok n_mo 1 f_mo_42 0 rfl rfl (by decide) rfl rfl (by decide +kernel) rfl rfl (Nat.le_of_ble_eq_true rfl) rfl ?_
    refine jj_aload_n X d_mo_place_26 27 rfl 0 rfl ?_
    refine jj_get (v := .int (nI (nP + 1))) X d_mo_place_27 30 rfl i_mo 1 f_mo_42 0 rfl rfl (by decide) rfl rfl ?_
    refine jj_iconst (v := 1) X d_mo_place_30 31 rfl (by decide) ?_
    refine jj_isub X d_mo_place_31 32 rfl ?_
    refine jj_topv (y := nI nP) (nI_pred _) ?_
    exact jj_iret X hr hlk d_mo_place_32 (⟨by simp [hne], by simp [hne]⟩)
  · have hne : nP = 12 := nI_eqD c11 (by omega) (by omega)
    refine jj_iconst (v := -1) X d_mo_place_14 15 rfl (by decide) ?_
    exact jj_iret X hr hlk d_mo_place_15 (⟨by simp [hne], by simp [hne]⟩)
set_option maxRecDepth 100000 in
set_option maxHeartbeats 4000000 in
theorem c_mo_open (l : Launch) (D : va_G) (cI cZ : ClassId) (q : Nat → Nat) (A : Rows) (nP : Nat) (x : Int32) (on : Bool) (hnP : A 0 0 = nI nP) (hlP : nP ≤ 12) : mt_I l D cls_ [(cI, .int), (cZ, .boolean)] nst_ y_mo_open (Cond.code y_mo_open b_mo_open 4 (some .boolean) :: gt_) (rmd 1) [.ref (q 0), .int x, .int (b2 on)] (mw cI cZ q A) (fun r u => r = (if hN (nI nP) x = true then b2 (decide (A 1 x.toNatClampNeg = 0)) else 0) ∧ u = mw cI cZ q (if hN (nI nP) x = true then (ua (ua A 0 (uz (A 0) 7 0)) 1 (upd (A 1) x.toNatClampNeg (b2 (!on)))) else (ua A 0 (uz (A 0) 7 0)))) := by
  refine mt_I_of (by decide) (Nat.le_of_ble_eq_true rfl) ?_
  intro p e s m below meth c AA X hr hlk
  refine jj_lve (lv' := [(0, .ref (q 0)), (1, .int x), (2, .int (b2 on))]) rfl ?_
  refine jj_aload_n X d_mo_open_0 1 rfl 0 rfl ?_
  refine jj_iconst (v := 0) X d_mo_open_1 2 rfl (by decide) ?_
  refine jj_put (ty := .int) (ws' := mw cI cZ q ((ua A 0 (uz (A 0) 7 0)))) X d_mo_open_2 5 rfl i_mo t_mo t_mo_ok n_mo 0 f_mo_38 0 rfl rfl (by decide) rfl rfl (by decide +kernel) rfl rfl (Nat.le_of_ble_eq_true rfl) rfl ?_
  refine jj_aload_n X d_mo_open_5 6 rfl 0 rfl ?_
  refine jj_iload_n X d_mo_open_6 7 rfl 1 rfl ?_
  refine jj_callV0 (st := []) X d_mo_open_7 10 rfl (c_mo_isPlace l D cI cZ q ((ua A 0 (uz (A 0) 7 0))) nP x hnP hlP) g_mo_55 ⟨rfl, w_mo_isPlace⟩ ⟨(Nat.le_of_ble_eq_true rfl), (Nat.le_of_ble_eq_true rfl)⟩ rfl 0 rfl rfl rfl (Nat.le_of_ble_eq_true rfl) ⟨rfl, rfl⟩ ⟨Nat.zero_le _, Nat.zero_le _⟩ (fun r u hu => ?_)
  obtain ⟨rfl, rfl⟩ := hu
  refine jj_if_ne X d_mo_open_10 15 13 (by decide) rfl (fun c10 => ?_) (fun c10 => ?_)
  · have c10 := b2_t c10
    have hx : vp_in x 12 := hN_in c10 (by rw [nI_toInt (by omega)]; omega)
    refine jj_aload_n X d_mo_open_15 16 rfl 0 rfl ?_
    refine jj_get (v := .ref (q 1)) X d_mo_open_16 19 rfl i_mo 2 f_mo_7 0 rfl rfl (by decide) rfl rfl ?_
    refine jj_iload_n X d_mo_open_19 20 rfl 1 rfl ?_
    refine jj_zald (v := A 1 x.toNatClampNeg) X d_mo_open_20 21 rfl 1 1 rfl rfl (by assumption) (rfl) ?_
    refine jj_if_ne X d_mo_open_21 28 24 (by decide) rfl (fun c21 => ?_) (fun c21 => ?_)
    · refine jj_iconst (v := 0) X d_mo_open_28 29 rfl (by decide) ?_
      refine jj_istore_n (lv' := [(0, .ref (q 0)), (1, .int x), (2, .int (b2 on)), (3, .int 0)]) X d_mo_open_29 30 rfl (by decide) rfl rfl ?_
      refine jj_aload_n X d_mo_open_30 31 rfl 0 rfl ?_
      refine jj_get (v := .ref (q 1)) X d_mo_open_31 34 rfl i_mo 2 f_mo_7 0 rfl rfl (by decide) rfl rfl ?_
      refine jj_iload_n X d_mo_open_34 35 rfl 1 rfl ?_
      refine jj_iload_n X d_mo_open_35 36 rfl 2 rfl ?_
      refine jj_if_ne X d_mo_open_36 43 39 (by decide) rfl (fun c36 => ?_) (fun c36 => ?_)
      · have c36 := b2_t c36
        refine jj_iconst (v := 0) X d_mo_open_43 44 rfl (by decide) ?_
        refine jj_zast (ws' := mw cI cZ q ((ua (ua A 0 (uz (A 0) 7 0)) 1 (upd (A 1) x.toNatClampNeg 0)))) X d_mo_open_44 45 rfl 1 1 rfl rfl (by assumption) (rfl) rfl ?_
        refine jj_iload_n X d_mo_open_45 46 rfl 3 rfl ?_
        exact jj_zret X hr hlk d_mo_open_46 (rfl) (⟨by simp [b2, *], by simp [b2, *]⟩)
      · have c36 := b2_f c36
        refine jj_iconst (v := 1) X d_mo_open_39 40 rfl (by decide) ?_
        refine jj_goto X d_mo_open_40 44 (by decide) ?_
        refine jj_zast (ws' := mw cI cZ q ((ua (ua A 0 (uz (A 0) 7 0)) 1 (upd (A 1) x.toNatClampNeg 1)))) X d_mo_open_44 45 rfl 1 1 rfl rfl (by assumption) (rfl) rfl ?_
        refine jj_iload_n X d_mo_open_45 46 rfl 3 rfl ?_
        exact jj_zret X hr hlk d_mo_open_46 (rfl) (⟨by simp [b2, *], by simp [b2, *]⟩)
    · refine jj_iconst (v := 1) X d_mo_open_24 25 rfl (by decide) ?_
      refine jj_goto X d_mo_open_25 29 (by decide) ?_
      refine jj_istore_n (lv' := [(0, .ref (q 0)), (1, .int x), (2, .int (b2 on)), (3, .int 1)]) X d_mo_open_29 30 rfl (by decide) rfl rfl ?_
      refine jj_aload_n X d_mo_open_30 31 rfl 0 rfl ?_
      refine jj_get (v := .ref (q 1)) X d_mo_open_31 34 rfl i_mo 2 f_mo_7 0 rfl rfl (by decide) rfl rfl ?_
      refine jj_iload_n X d_mo_open_34 35 rfl 1 rfl ?_
      refine jj_iload_n X d_mo_open_35 36 rfl 2 rfl ?_
      refine jj_if_ne X d_mo_open_36 43 39 (by decide) rfl (fun c36 => ?_) (fun c36 => ?_)
      · have c36 := b2_t c36
        refine jj_iconst (v := 0) X d_mo_open_43 44 rfl (by decide) ?_
        refine jj_zast (ws' := mw cI cZ q ((ua (ua A 0 (uz (A 0) 7 0)) 1 (upd (A 1) x.toNatClampNeg 0)))) X d_mo_open_44 45 rfl 1 1 rfl rfl (by assumption) (rfl) rfl ?_
        refine jj_iload_n X d_mo_open_45 46 rfl 3 rfl ?_
        exact jj_zret X hr hlk d_mo_open_46 (rfl) (⟨by simp [b2, *], by simp [b2, *]⟩)
      · have c36 := b2_f c36
        refine jj_iconst (v := 1) X d_mo_open_39 40 rfl (by decide) ?_
        refine jj_goto X d_mo_open_40 44 (by decide) ?_
        refine jj_zast (ws' := mw cI cZ q ((ua (ua A 0 (uz (A 0) 7 0)) 1 (upd (A 1) x.toNatClampNeg 1)))) X d_mo_open_44 45 rfl 1 1 rfl rfl (by assumption) (rfl) rfl ?_
        refine jj_iload_n X d_mo_open_45 46 rfl 3 rfl ?_
        exact jj_zret X hr hlk d_mo_open_46 (rfl) (⟨by simp [b2, *], by simp [b2, *]⟩)
  · have c10 := b2_f c10
    refine jj_iconst (v := 0) X d_mo_open_13 14 rfl (by decide) ?_
    exact jj_zret X hr hlk d_mo_open_14 (rfl) (⟨by simp [b2, *], by simp [b2, *]⟩)
set_option maxRecDepth 100000 in
set_option maxHeartbeats 4000000 in
theorem c_mo_route (l : Launch) (D : va_G) (cI cZ : ClassId) (q : Nat → Nat) (A : Rows) (nP : Nat) (nR : Nat) (a1 a2 a3 a4 a5 : Int32) (hnP : A 0 0 = nI nP) (hlP : nP ≤ 12) (hnR : A 0 1 = nI nR) (hlR : nR ≤ 40) : mt_I l D cls_ [(cI, .int), (cZ, .boolean)] nst_ y_mo_route (Cond.code y_mo_route b_mo_route 7 (some .int) :: gt_) (rmd 1) [.ref (q 0), .int a1, .int a2, .int a3, .int a4, .int a5] (mw cI cZ q A) (fun r u => r = (if (hN (nI nP) a1 && hN (nI nP) a2 && !decide (a1 = a2) && !decide (a3 < 1) && !decide (127 < a3) && !decide (a4 < 0) && decide (a4 ≤ 30) && !decide (a5 < 1) && decide (a5 ≤ 99) && !decide (nR = 40)) = true then nI nR else -1) ∧ u = mw cI cZ q (if (hN (nI nP) a1 && hN (nI nP) a2 && !decide (a1 = a2) && !decide (a3 < 1) && !decide (127 < a3) && !decide (a4 < 0) && decide (a4 ≤ 30) && !decide (a5 < 1) && decide (a5 ≤ 99) && !decide (nR = 40)) = true then (ua (ua (ua (ua (ua (ua (ua A 0 (uz (uz (A 0) 7 0) 1 (nI (nR + 1)))) 2 (upd (A 2) nR a1)) 3 (upd (A 3) nR a2)) 4 (upd (A 4) nR a3)) 5 (upd (A 5) nR a4)) 6 (upd (A 6) nR a5)) 7 (upd (A 7) nR (-1))) else (ua A 0 (uz (A 0) 7 0)))) := by
  refine mt_I_of (by decide) (Nat.le_of_ble_eq_true rfl) ?_
  intro p e s m below meth c AA X hr hlk
  refine jj_lve (lv' := [(0, .ref (q 0)), (1, .int a1), (2, .int a2), (3, .int a3), (4, .int a4), (5, .int a5)]) rfl ?_
  refine jj_aload_n X d_mo_route_0 1 rfl 0 rfl ?_
  refine jj_iconst (v := 0) X d_mo_route_1 2 rfl (by decide) ?_
  refine jj_put (ty := .int) (ws' := mw cI cZ q ((ua A 0 (uz (A 0) 7 0)))) X d_mo_route_2 5 rfl i_mo t_mo t_mo_ok n_mo 0 f_mo_38 0 rfl rfl (by decide) rfl rfl (by decide +kernel) rfl rfl (Nat.le_of_ble_eq_true rfl) rfl ?_
  refine jj_aload_n X d_mo_route_5 6 rfl 0 rfl ?_
  refine jj_iload_n X d_mo_route_6 7 rfl 1 rfl ?_
  refine jj_callV0 (st := []) X d_mo_route_7 10 rfl (c_mo_isPlace l D cI cZ q ((ua A 0 (uz (A 0) 7 0))) nP a1 hnP hlP) g_mo_55 ⟨rfl, w_mo_isPlace⟩ ⟨(Nat.le_of_ble_eq_true rfl), (Nat.le_of_ble_eq_true rfl)⟩ rfl 0 rfl rfl rfl (Nat.le_of_ble_eq_true rfl) ⟨rfl, rfl⟩ ⟨Nat.zero_le _, Nat.zero_le _⟩ (fun r u hu => ?_)
  obtain ⟨rfl, rfl⟩ := hu
  refine jj_if_eq X d_mo_route_10 71 13 (by decide) rfl (fun c10 => ?_) (fun c10 => ?_)
  · have c10 := b2_f c10
    refine jj_iconst (v := -1) X d_mo_route_71 72 rfl (by decide) ?_
    exact jj_iret X hr hlk d_mo_route_72 (⟨by simp [*], by simp [*]⟩)
  · have c10 := b2_t c10
    refine jj_aload_n X d_mo_route_13 14 rfl 0 rfl ?_
    refine jj_iload_n X d_mo_route_14 15 rfl 2 rfl ?_
    refine jj_callV0 (st := []) X d_mo_route_15 18 rfl (c_mo_isPlace l D cI cZ q ((ua A 0 (uz (A 0) 7 0))) nP a2 hnP hlP) g_mo_55 ⟨rfl, w_mo_isPlace⟩ ⟨(Nat.le_of_ble_eq_true rfl), (Nat.le_of_ble_eq_true rfl)⟩ rfl 0 rfl rfl rfl (Nat.le_of_ble_eq_true rfl) ⟨rfl, rfl⟩ ⟨Nat.zero_le _, Nat.zero_le _⟩ (fun r u hu => ?_)
    obtain ⟨rfl, rfl⟩ := hu
    refine jj_if_eq X d_mo_route_18 71 21 (by decide) rfl (fun c18 => ?_) (fun c18 => ?_)
    · have c18 := b2_f c18
      refine jj_iconst (v := -1) X d_mo_route_71 72 rfl (by decide) ?_
      exact jj_iret X hr hlk d_mo_route_72 (⟨by simp [*], by simp [*]⟩)
    · have c18 := b2_t c18
      refine jj_iload_n X d_mo_route_21 22 rfl 1 rfl ?_
      refine jj_iload_n X d_mo_route_22 23 rfl 2 rfl ?_
      refine jj_icmp_eq X d_mo_route_23 71 26 (by decide) rfl (fun c23 => ?_) (fun c23 => ?_)
      · refine jj_iconst (v := -1) X d_mo_route_71 72 rfl (by decide) ?_
        exact jj_iret X hr hlk d_mo_route_72 (⟨by simp [*], by simp [*]⟩)
      · refine jj_iload_n X d_mo_route_26 27 rfl 3 rfl ?_
        refine jj_iconst (v := 1) X d_mo_route_27 28 rfl (by decide) ?_
        refine jj_icmp_lt X d_mo_route_28 71 31 (by decide) rfl (fun c28 => ?_) (fun c28 => ?_)
        · refine jj_iconst (v := -1) X d_mo_route_71 72 rfl (by decide) ?_
          exact jj_iret X hr hlk d_mo_route_72 (⟨by simp [*], by simp [*]⟩)
        · refine jj_iload_n X d_mo_route_31 32 rfl 3 rfl ?_
          refine jj_bipush (v := 127) X d_mo_route_32 34 rfl (by decide) ?_
          refine jj_icmp_gt X d_mo_route_34 71 37 (by decide) rfl (fun c34 => ?_) (fun c34 => ?_)
          · refine jj_iconst (v := -1) X d_mo_route_71 72 rfl (by decide) ?_
            exact jj_iret X hr hlk d_mo_route_72 (⟨by simp [*], by simp [*]⟩)
          · refine jj_iload X d_mo_route_37 39 rfl 4 rfl ?_
            refine jj_if_lt X d_mo_route_39 71 42 (by decide) rfl (fun c39 => ?_) (fun c39 => ?_)
            · refine jj_iconst (v := -1) X d_mo_route_71 72 rfl (by decide) ?_
              exact jj_iret X hr hlk d_mo_route_72 (⟨by simp [*], by simp [*]⟩)
            · refine jj_iload X d_mo_route_42 44 rfl 4 rfl ?_
              refine jj_bipush (v := 30) X d_mo_route_44 46 rfl (by decide) ?_
              refine jj_icmp_gt X d_mo_route_46 71 49 (by decide) rfl (fun c46 => ?_) (fun c46 => ?_)
              · have c46 := Int32.not_le.mpr c46
                refine jj_iconst (v := -1) X d_mo_route_71 72 rfl (by decide) ?_
                exact jj_iret X hr hlk d_mo_route_72 (⟨by simp [*], by simp [*]⟩)
              · have c46 := Int32.not_lt.mp c46
                refine jj_iload X d_mo_route_49 51 rfl 5 rfl ?_
                refine jj_iconst (v := 1) X d_mo_route_51 52 rfl (by decide) ?_
                refine jj_icmp_lt X d_mo_route_52 71 55 (by decide) rfl (fun c52 => ?_) (fun c52 => ?_)
                · refine jj_iconst (v := -1) X d_mo_route_71 72 rfl (by decide) ?_
                  exact jj_iret X hr hlk d_mo_route_72 (⟨by simp [*], by simp [*]⟩)
                · refine jj_iload X d_mo_route_55 57 rfl 5 rfl ?_
                  refine jj_bipush (v := 99) X d_mo_route_57 59 rfl (by decide) ?_
                  refine jj_icmp_gt X d_mo_route_59 71 62 (by decide) rfl (fun c59 => ?_) (fun c59 => ?_)
                  · have c59 := Int32.not_le.mpr c59
                    refine jj_iconst (v := -1) X d_mo_route_71 72 rfl (by decide) ?_
                    exact jj_iret X hr hlk d_mo_route_72 (⟨by simp [*], by simp [*]⟩)
                  · have c59 := Int32.not_lt.mp c59
                    refine jj_aload_n X d_mo_route_62 63 rfl 0 rfl ?_
                    refine jj_get (v := .int (nI nR)) X d_mo_route_63 66 rfl i_mo 3 f_mo_45 0 rfl rfl (by decide) rfl (by rw [← hnR]; rfl) ?_
                    refine jj_bipush (v := 40) X d_mo_route_66 68 rfl (by decide) ?_
                    refine jj_icmp_ne X d_mo_route_68 73 71 (by decide) rfl (fun c68 => ?_) (fun c68 => ?_)
                    · have hR : nR ≠ 40 := nI_neD c68
                      refine jj_bipush (v := 6) X d_mo_route_73 75 rfl (by decide) ?_
                      refine jj_aload_n X d_mo_route_75 76 rfl 0 rfl ?_
                      refine jj_get (v := .int (nI nR)) X d_mo_route_76 79 rfl i_mo 3 f_mo_45 0 rfl rfl (by decide) rfl (by rw [← hnR]; rfl) ?_
                      refine jj_imul X d_mo_route_79 80 rfl ?_
                      refine jj_topv (y := nI (6 * nR)) (pk_mul 6 _) ?_
                      refine jj_istore (lv' := [(0, .ref (q 0)), (1, .int a1), (2, .int a2), (3, .int a3), (4, .int a4), (5, .int a5), (6, .int (nI (6 * nR)))]) X d_mo_route_80 82 rfl (by decide) rfl rfl ?_
                      refine jj_aload_n X d_mo_route_82 83 rfl 0 rfl ?_
                      refine jj_get (v := .ref (q 2)) X d_mo_route_83 86 rfl i_mo 4 f_mo_13 0 rfl rfl (by decide) rfl rfl ?_
                      refine jj_iload X d_mo_route_86 88 rfl 6 rfl ?_
                      refine jj_iload_n X d_mo_route_88 89 rfl 1 rfl ?_
                      refine jj_iast (ws' := mw cI cZ q ((ua (ua A 0 (uz (A 0) 7 0)) 2 (upd (A 2) nR a1)))) X d_mo_route_89 90 rfl 2 0 rfl rfl (vp_in_nI (by omega) (by omega)) (by rw [nI_clamp (by omega)]; exact congrArg (fun z => List.set (mw cI cZ q ((ua A 0 (uz (A 0) 7 0)))) 2 (q 2, .inl (cI, 240, .inl z))) (mxu6_0 _ _)) ?_
                      refine jj_aload_n X d_mo_route_90 91 rfl 0 rfl ?_
                      refine jj_get (v := .ref (q 2)) X d_mo_route_91 94 rfl i_mo 4 f_mo_13 0 rfl rfl (by decide) rfl rfl ?_
                      refine jj_iload X d_mo_route_94 96 rfl 6 rfl ?_
                      refine jj_iconst (v := 1) X d_mo_route_96 97 rfl (by decide) ?_
                      refine jj_iadd X d_mo_route_97 98 rfl ?_
                      refine jj_topv (y := nI (6 * nR + 1)) (nI_1 _) ?_
                      refine jj_iload_n X d_mo_route_98 99 rfl 2 rfl ?_
                      refine jj_iast (ws' := mw cI cZ q ((ua (ua (ua A 0 (uz (A 0) 7 0)) 2 (upd (A 2) nR a1)) 3 (upd (A 3) nR a2)))) X d_mo_route_99 100 rfl 2 0 rfl rfl (vp_in_nI (by omega) (by omega)) (by rw [nI_clamp (by omega)]; exact congrArg (fun z => List.set (mw cI cZ q ((ua (ua A 0 (uz (A 0) 7 0)) 2 (upd (A 2) nR a1)))) 2 (q 2, .inl (cI, 240, .inl z))) (mxu6_1 _ _)) ?_
                      refine jj_aload_n X d_mo_route_100 101 rfl 0 rfl ?_
                      refine jj_get (v := .ref (q 2)) X d_mo_route_101 104 rfl i_mo 4 f_mo_13 0 rfl rfl (by decide) rfl rfl ?_
                      refine jj_iload X d_mo_route_104 106 rfl 6 rfl ?_
                      refine jj_iconst (v := 2) X d_mo_route_106 107 rfl (by decide) ?_
                      refine jj_iadd X d_mo_route_107 108 rfl ?_
                      refine jj_topv (y := nI (6 * nR + 2)) (nI_add _ 2) ?_
                      refine jj_iload_n X d_mo_route_108 109 rfl 3 rfl ?_
                      refine jj_iast (ws' := mw cI cZ q ((ua (ua (ua (ua A 0 (uz (A 0) 7 0)) 2 (upd (A 2) nR a1)) 3 (upd (A 3) nR a2)) 4 (upd (A 4) nR a3)))) X d_mo_route_109 110 rfl 2 0 rfl rfl (vp_in_nI (by omega) (by omega)) (by rw [nI_clamp (by omega)]; exact congrArg (fun z => List.set (mw cI cZ q ((ua (ua (ua A 0 (uz (A 0) 7 0)) 2 (upd (A 2) nR a1)) 3 (upd (A 3) nR a2)))) 2 (q 2, .inl (cI, 240, .inl z))) (mxu6_2 _ _)) ?_
                      refine jj_aload_n X d_mo_route_110 111 rfl 0 rfl ?_
                      refine jj_get (v := .ref (q 2)) X d_mo_route_111 114 rfl i_mo 4 f_mo_13 0 rfl rfl (by decide) rfl rfl ?_
                      refine jj_iload X d_mo_route_114 116 rfl 6 rfl ?_
                      refine jj_iconst (v := 3) X d_mo_route_116 117 rfl (by decide) ?_
                      refine jj_iadd X d_mo_route_117 118 rfl ?_
                      refine jj_topv (y := nI (6 * nR + 3)) (nI_add _ 3) ?_
                      refine jj_iload X d_mo_route_118 120 rfl 4 rfl ?_
                      refine jj_iast (ws' := mw cI cZ q ((ua (ua (ua (ua (ua A 0 (uz (A 0) 7 0)) 2 (upd (A 2) nR a1)) 3 (upd (A 3) nR a2)) 4 (upd (A 4) nR a3)) 5 (upd (A 5) nR a4)))) X d_mo_route_120 121 rfl 2 0 rfl rfl (vp_in_nI (by omega) (by omega)) (by rw [nI_clamp (by omega)]; exact congrArg (fun z => List.set (mw cI cZ q ((ua (ua (ua (ua A 0 (uz (A 0) 7 0)) 2 (upd (A 2) nR a1)) 3 (upd (A 3) nR a2)) 4 (upd (A 4) nR a3)))) 2 (q 2, .inl (cI, 240, .inl z))) (mxu6_3 _ _)) ?_
                      refine jj_aload_n X d_mo_route_121 122 rfl 0 rfl ?_
                      refine jj_get (v := .ref (q 2)) X d_mo_route_122 125 rfl i_mo 4 f_mo_13 0 rfl rfl (by decide) rfl rfl ?_
                      refine jj_iload X d_mo_route_125 127 rfl 6 rfl ?_
                      refine jj_iconst (v := 4) X d_mo_route_127 128 rfl (by decide) ?_
                      refine jj_iadd X d_mo_route_128 129 rfl ?_
                      refine jj_topv (y := nI (6 * nR + 4)) (nI_add _ 4) ?_
                      refine jj_iload X d_mo_route_129 131 rfl 5 rfl ?_
                      refine jj_iast (ws' := mw cI cZ q ((ua (ua (ua (ua (ua (ua A 0 (uz (A 0) 7 0)) 2 (upd (A 2) nR a1)) 3 (upd (A 3) nR a2)) 4 (upd (A 4) nR a3)) 5 (upd (A 5) nR a4)) 6 (upd (A 6) nR a5)))) X d_mo_route_131 132 rfl 2 0 rfl rfl (vp_in_nI (by omega) (by omega)) (by rw [nI_clamp (by omega)]; exact congrArg (fun z => List.set (mw cI cZ q ((ua (ua (ua (ua (ua A 0 (uz (A 0) 7 0)) 2 (upd (A 2) nR a1)) 3 (upd (A 3) nR a2)) 4 (upd (A 4) nR a3)) 5 (upd (A 5) nR a4)))) 2 (q 2, .inl (cI, 240, .inl z))) (mxu6_4 _ _)) ?_
                      refine jj_aload_n X d_mo_route_132 133 rfl 0 rfl ?_
                      refine jj_get (v := .ref (q 2)) X d_mo_route_133 136 rfl i_mo 4 f_mo_13 0 rfl rfl (by decide) rfl rfl ?_
                      refine jj_iload X d_mo_route_136 138 rfl 6 rfl ?_
                      refine jj_iconst (v := 5) X d_mo_route_138 139 rfl (by decide) ?_
                      refine jj_iadd X d_mo_route_139 140 rfl ?_
                      refine jj_topv (y := nI (6 * nR + 5)) (nI_add _ 5) ?_
                      refine jj_iconst (v := -1) X d_mo_route_140 141 rfl (by decide) ?_
                      refine jj_iast (ws' := mw cI cZ q ((ua (ua (ua (ua (ua (ua (ua A 0 (uz (A 0) 7 0)) 2 (upd (A 2) nR a1)) 3 (upd (A 3) nR a2)) 4 (upd (A 4) nR a3)) 5 (upd (A 5) nR a4)) 6 (upd (A 6) nR a5)) 7 (upd (A 7) nR (-1))))) X d_mo_route_141 142 rfl 2 0 rfl rfl (vp_in_nI (by omega) (by omega)) (by rw [nI_clamp (by omega)]; exact congrArg (fun z => List.set (mw cI cZ q ((ua (ua (ua (ua (ua (ua A 0 (uz (A 0) 7 0)) 2 (upd (A 2) nR a1)) 3 (upd (A 3) nR a2)) 4 (upd (A 4) nR a3)) 5 (upd (A 5) nR a4)) 6 (upd (A 6) nR a5)))) 2 (q 2, .inl (cI, 240, .inl z))) (mxu6_5 _ _)) ?_
                      refine jj_aload_n X d_mo_route_142 143 rfl 0 rfl ?_
                      refine jj_dup X d_mo_route_143 144 rfl rfl ?_
                      refine jj_get (v := .int (nI nR)) X d_mo_route_144 147 rfl i_mo 3 f_mo_45 0 rfl rfl (by decide) rfl (by rw [← hnR]; rfl) ?_
                      refine jj_iconst (v := 1) X d_mo_route_147 148 rfl (by decide) ?_
                      refine jj_iadd X d_mo_route_148 149 rfl ?_
                      refine jj_topv (y := nI (nR + 1)) (nI_1 _) ?_
                      refine jj_put (ty := .int) (ws' := mw cI cZ q ((ua (ua (ua (ua (ua (ua (ua A 0 (uz (uz (A 0) 7 0) 1 (nI (nR + 1)))) 2 (upd (A 2) nR a1)) 3 (upd (A 3) nR a2)) 4 (upd (A 4) nR a3)) 5 (upd (A 5) nR a4)) 6 (upd (A 6) nR a5)) 7 (upd (A 7) nR (-1))))) X d_mo_route_149 152 rfl i_mo t_mo t_mo_ok n_mo 3 f_mo_45 0 rfl rfl (by decide) rfl rfl (by decide +kernel) rfl rfl (Nat.le_of_ble_eq_true rfl) rfl ?_
                      refine jj_aload_n X d_mo_route_152 153 rfl 0 rfl ?_
                      refine jj_get (v := .int (nI (nR + 1))) X d_mo_route_153 156 rfl i_mo 3 f_mo_45 0 rfl rfl (by decide) rfl rfl ?_
                      refine jj_iconst (v := 1) X d_mo_route_156 157 rfl (by decide) ?_
                      refine jj_isub X d_mo_route_157 158 rfl ?_
                      refine jj_topv (y := nI nR) (nI_pred _) ?_
                      exact jj_iret X hr hlk d_mo_route_158 (⟨by simp [*], by simp [*]⟩)
                    · have hR : nR = 40 := nI_eqD c68 (by omega) (by omega)
                      refine jj_iconst (v := -1) X d_mo_route_71 72 rfl (by decide) ?_
                      exact jj_iret X hr hlk d_mo_route_72 (⟨by simp [*], by simp [*]⟩)
set_option maxRecDepth 100000 in
set_option maxHeartbeats 4000000 in
theorem c_mo_skipped (l : Launch) (D : va_G) (cI cZ : ClassId) (q : Nat → Nat) (A : Rows) (n : Nat) (a b : Int32) (hn : A 0 2 = nI n) (hle : n ≤ 60) : mt_I l D cls_ [(cI, .int), (cZ, .boolean)] nst_ y_mo_skipped (Cond.code y_mo_skipped b_mo_skipped 4 (some .int) :: gt_) (rmd 0) [.ref (q 0), .int a, .int b] (mw cI cZ q A) (fun r u => r = x_find (A 8) (A 9) a b n 0 ∧ u = mw cI cZ q A) := by
  refine mt_I_of (by decide) (Nat.le_of_ble_eq_true rfl) ?_
  intro p e s m below meth c AA X hr hlk
  refine jj_lve (lv' := [(0, .ref (q 0)), (1, .int a), (2, .int b)]) rfl ?_
  refine jj_iconst (v := 0) X d_mo_skipped_0 1 rfl (by decide) ?_
  refine jj_istore_n (lv' := [(0, .ref (q 0)), (1, .int a), (2, .int b), (3, .int 0)]) X d_mo_skipped_1 2 rfl (by decide) rfl rfl ?_
  refine jj_loop (fun (k : Nat) => k ≤ n ∧ x_find (A 8) (A 9) a b (n - k) k = x_find (A 8) (A 9) a b n 0) (fun (k : Nat) => n - k) (fun (k : Nat) => [(0, .ref (q 0)), (1, .int a), (2, .int b), (3, .int (nI k))]) (fun (k : Nat) => []) (fun (k : Nat) => mw cI cZ q A) (0) (⟨Nat.zero_le _, by rw [Nat.sub_zero]⟩) rfl rfl rfl ?_
  rintro k hI ih2
  try dsimp only at hI ih2 ⊢
  obtain ⟨hk, hf⟩ := hI
  refine jj_iload_n X d_mo_skipped_2 3 rfl 3 rfl ?_
  refine jj_aload_n X d_mo_skipped_3 4 rfl 0 rfl ?_
  refine jj_get (v := .int (nI n)) X d_mo_skipped_4 7 rfl i_mo 7 f_mo_59 0 rfl rfl (by decide) rfl (by rw [← hn]; rfl) ?_
  refine jj_icmp_ge X d_mo_skipped_7 38 10 (by decide) rfl (fun c7 => ?_) (fun c7 => ?_)
  · have hkn : k = n := Nat.le_antisymm hk (nI_leD c7 (by omega) (by omega))
    subst hkn
    refine jj_iconst (v := -1) X d_mo_skipped_38 39 rfl (by decide) ?_
    exact jj_iret X hr hlk d_mo_skipped_39 (⟨by rw [← hf, x_find_e], rfl⟩)
  · have hkn : k < n := nI_nleD c7 (by omega) (by omega)
    refine jj_aload_n X d_mo_skipped_10 11 rfl 0 rfl ?_
    refine jj_get (v := .ref (q 3)) X d_mo_skipped_11 14 rfl i_mo 5 f_mo_17 0 rfl rfl (by decide) rfl rfl ?_
    refine jj_iload_n X d_mo_skipped_14 15 rfl 3 rfl ?_
    refine jj_iald (v := A 8 k) X d_mo_skipped_15 16 rfl 3 0 rfl rfl (vp_in_nI (by omega) (by omega)) (ar_cl (by omega)) ?_
    refine jj_iload_n X d_mo_skipped_16 17 rfl 1 rfl ?_
    refine jj_icmp_ne X d_mo_skipped_17 32 20 (by decide) rfl (fun c17 => ?_) (fun c17 => ?_)
    · refine jj_iinc (v := nI (k + 1)) (lv' := [(0, .ref (q 0)), (1, .int a), (2, .int b), (3, .int (nI (k + 1)))]) X d_mo_skipped_32 35 rfl 3 rfl (ar_inc _) (by decide) rfl rfl ?_
      refine jj_goto X d_mo_skipped_35 2 (by decide) ?_
      exact ih2 (k + 1) (⟨by omega, by rw [← hf, x_find_s hkn, if_neg (by simp [*])]⟩) (by omega)
    · refine jj_aload_n X d_mo_skipped_20 21 rfl 0 rfl ?_
      refine jj_get (v := .ref (q 4)) X d_mo_skipped_21 24 rfl i_mo 6 f_mo_20 0 rfl rfl (by decide) rfl rfl ?_
      refine jj_iload_n X d_mo_skipped_24 25 rfl 3 rfl ?_
      refine jj_iald (v := A 9 k) X d_mo_skipped_25 26 rfl 4 0 rfl rfl (vp_in_nI (by omega) (by omega)) (ar_cl (by omega)) ?_
      refine jj_iload_n X d_mo_skipped_26 27 rfl 2 rfl ?_
      refine jj_icmp_ne X d_mo_skipped_27 32 30 (by decide) rfl (fun c27 => ?_) (fun c27 => ?_)
      · refine jj_iinc (v := nI (k + 1)) (lv' := [(0, .ref (q 0)), (1, .int a), (2, .int b), (3, .int (nI (k + 1)))]) X d_mo_skipped_32 35 rfl 3 rfl (ar_inc _) (by decide) rfl rfl ?_
        refine jj_goto X d_mo_skipped_35 2 (by decide) ?_
        exact ih2 (k + 1) (⟨by omega, by rw [← hf, x_find_s hkn, if_neg (by simp [*])]⟩) (by omega)
      · refine jj_iload_n X d_mo_skipped_30 31 rfl 3 rfl ?_
        exact jj_iret X hr hlk d_mo_skipped_31 (⟨by rw [← hf, x_find_s hkn, if_pos (by simp [*])], rfl⟩)
set_option maxRecDepth 100000 in
set_option maxHeartbeats 4000000 in
theorem c_mo_runs (l : Launch) (D : va_G) (cI cZ : ClassId) (q : Nat → Nat) (A : Rows) (nX : Nat) (k : Nat) (d : Int32) (hnX : A 0 2 = nI nX) (hlX : nX ≤ 60) (hk : k < 40) : mt_I l D cls_ [(cI, .int), (cZ, .boolean)] nst_ y_mo_runs (Cond.code y_mo_runs b_mo_runs 3 (some .boolean) :: gt_) (rmd 1) [.ref (q 0), .int (nI k), .int d] (mw cI cZ q A) (fun r u => r = b2 (ruC A nX (nI k) d) ∧ u = mw cI cZ q A) := by
  refine mt_I_of (by decide) (Nat.le_of_ble_eq_true rfl) ?_
  intro p e s m below meth c AA X hr hlk
  refine jj_lve (lv' := [(0, .ref (q 0)), (1, .int (nI k)), (2, .int d)]) rfl ?_
  refine jj_aload_n X d_mo_runs_0 1 rfl 0 rfl ?_
  refine jj_get (v := .ref (q 2)) X d_mo_runs_1 4 rfl i_mo 4 f_mo_13 0 rfl rfl (by decide) rfl rfl ?_
  refine jj_bipush (v := 6) X d_mo_runs_4 6 rfl (by decide) ?_
  refine jj_iload_n X d_mo_runs_6 7 rfl 1 rfl ?_
  refine jj_imul X d_mo_runs_7 8 rfl ?_
  refine jj_topv (y := nI (6 * k)) (pk_mul 6 _) ?_
  refine jj_iconst (v := 2) X d_mo_runs_8 9 rfl (by decide) ?_
  refine jj_iadd X d_mo_runs_9 10 rfl ?_
  refine jj_topv (y := nI (6 * k + 2)) (nI_add _ 2) ?_
  refine jj_iald (v := A 4 k) X d_mo_runs_10 11 rfl 2 0 rfl rfl (vp_in_nI (by omega) (by omega)) ((ar_cl (by omega)).trans (mxr6_2 _)) ?_
  refine jj_iload_n X d_mo_runs_11 12 rfl 2 rfl ?_
  refine jj_bipush (v := 7) X d_mo_runs_12 14 rfl (by decide) ?_
  refine jj_irem X d_mo_runs_14 15 rfl (by decide) ?_
  refine jj_ishr X d_mo_runs_15 16 rfl ?_
  refine jj_iconst (v := 1) X d_mo_runs_16 17 rfl (by decide) ?_
  refine jj_iand X d_mo_runs_17 18 rfl ?_
  refine jj_iconst (v := 1) X d_mo_runs_18 19 rfl (by decide) ?_
  refine jj_icmp_ne X d_mo_runs_19 36 22 (by decide) rfl (fun c19 => ?_) (fun c19 => ?_)
  · refine jj_iconst (v := 0) X d_mo_runs_36 37 rfl (by decide) ?_
    exact jj_zret X hr hlk d_mo_runs_37 (rfl) (⟨by simp [ruC, b2, nI_clamp (show k < 2 ^ 31 by omega), *], rfl⟩)
  · refine jj_aload_n X d_mo_runs_22 23 rfl 0 rfl ?_
    refine jj_iload_n X d_mo_runs_23 24 rfl 1 rfl ?_
    refine jj_iload_n X d_mo_runs_24 25 rfl 2 rfl ?_
    refine jj_callV0 (st := []) X d_mo_runs_25 28 rfl (c_mo_skipped l D cI cZ q A nX (nI k) d hnX hlX) g_mo_68 ⟨rfl, w_mo_skipped⟩ ⟨(Nat.le_of_ble_eq_true rfl), (Nat.le_of_ble_eq_true rfl)⟩ rfl 0 rfl rfl rfl (Nat.le_of_ble_eq_true rfl) ⟨rfl, rfl⟩ ⟨Nat.zero_le _, Nat.zero_le _⟩ (fun r u hu => ?_)
    obtain ⟨rfl, rfl⟩ := hu
    refine jj_iconst (v := -1) X d_mo_runs_28 29 rfl (by decide) ?_
    refine jj_icmp_ne X d_mo_runs_29 36 32 (by decide) rfl (fun c29 => ?_) (fun c29 => ?_)
    · refine jj_iconst (v := 0) X d_mo_runs_36 37 rfl (by decide) ?_
      exact jj_zret X hr hlk d_mo_runs_37 (rfl) (⟨by simp [ruC, b2, nI_clamp (show k < 2 ^ 31 by omega), *], rfl⟩)
    · refine jj_iconst (v := 1) X d_mo_runs_32 33 rfl (by decide) ?_
      refine jj_goto X d_mo_runs_33 37 (by decide) ?_
      exact jj_zret X hr hlk d_mo_runs_37 (rfl) (⟨by simp [ruC, b2, nI_clamp (show k < 2 ^ 31 by omega), *], rfl⟩)
set_option maxRecDepth 100000 in
set_option maxHeartbeats 4000000 in
theorem c_mo_skip (l : Launch) (D : va_G) (cI cZ : ClassId) (q : Nat → Nat) (A : Rows) (nR : Nat) (nX : Nat) (x d : Int32) (out : Bool) (hnR : A 0 1 = nI nR) (hlR : nR ≤ 40) (hnX : A 0 2 = nI nX) (hlX : nX ≤ 60) : mt_I l D cls_ [(cI, .int), (cZ, .boolean)] nst_ y_mo_skip (Cond.code y_mo_skip b_mo_skip 5 (some .boolean) :: gt_) (rmd 1) [.ref (q 0), .int x, .int d, .int (b2 out)] (mw cI cZ q A) (fun r u => r = (if (hN (nI nR) x && dC d) = true then (if out = true then b2 (!(decide (nX = 60) || !decide (x_find (A 8) (A 9) x d nX 0 = -1))) else b2 (!decide (x_find (A 8) (A 9) x d nX 0 = -1))) else 0) ∧ u = mw cI cZ q (if (hN (nI nR) x && dC d) = true then (if out = true then (if (!(decide (nX = 60) || !decide (x_find (A 8) (A 9) x d nX 0 = -1))) = true then (ua (ua (ua A 0 (uz (uz (A 0) 7 0) 2 (nI (nX + 1)))) 8 (upd (A 8) nX x)) 9 (upd (A 9) nX d)) else (ua A 0 (uz (A 0) 7 0))) else (if (!decide (x_find (A 8) (A 9) x d nX 0 = -1)) = true then (ua (ua (ua A 0 (uz (uz (A 0) 7 0) 2 (nI (nX - 1)))) 8 (upd (A 8) (x_find (A 8) (A 9) x d nX 0).toNatClampNeg (A 8 (nX - 1)))) 9 (upd (A 9) (x_find (A 8) (A 9) x d nX 0).toNatClampNeg (A 9 (nX - 1)))) else (ua A 0 (uz (A 0) 7 0)))) else (ua A 0 (uz (A 0) 7 0)))) := by
  refine mt_I_of (by decide) (Nat.le_of_ble_eq_true rfl) ?_
  intro p e s m below meth c AA X hr hlk
  refine jj_lve (lv' := [(0, .ref (q 0)), (1, .int x), (2, .int d), (3, .int (b2 out))]) rfl ?_
  refine jj_aload_n X d_mo_skip_0 1 rfl 0 rfl ?_
  refine jj_iconst (v := 0) X d_mo_skip_1 2 rfl (by decide) ?_
  refine jj_put (ty := .int) (ws' := mw cI cZ q ((ua A 0 (uz (A 0) 7 0)))) X d_mo_skip_2 5 rfl i_mo t_mo t_mo_ok n_mo 0 f_mo_38 0 rfl rfl (by decide) rfl rfl (by decide +kernel) rfl rfl (Nat.le_of_ble_eq_true rfl) rfl ?_
  refine jj_aload_n X d_mo_skip_5 6 rfl 0 rfl ?_
  refine jj_iload_n X d_mo_skip_6 7 rfl 1 rfl ?_
  refine jj_callV0 (st := []) X d_mo_skip_7 10 rfl (c_mo_isRoute l D cI cZ q ((ua A 0 (uz (A 0) 7 0))) nR x hnR hlR) g_mo_62 ⟨rfl, w_mo_isRoute⟩ ⟨(Nat.le_of_ble_eq_true rfl), (Nat.le_of_ble_eq_true rfl)⟩ rfl 0 rfl rfl rfl (Nat.le_of_ble_eq_true rfl) ⟨rfl, rfl⟩ ⟨Nat.zero_le _, Nat.zero_le _⟩ (fun r u hu => ?_)
  obtain ⟨rfl, rfl⟩ := hu
  refine jj_if_eq X d_mo_skip_10 20 13 (by decide) rfl (fun c10 => ?_) (fun c10 => ?_)
  · have c10 := b2_f c10
    refine jj_iconst (v := 0) X d_mo_skip_20 21 rfl (by decide) ?_
    exact jj_zret X hr hlk d_mo_skip_21 (rfl) (⟨by simp [*], by simp [*]⟩)
  · have c10 := b2_t c10
    refine jj_iload_n X d_mo_skip_13 14 rfl 2 rfl ?_
    refine jj_callS0 (st := []) X d_mo_skip_14 17 rfl (c_mo_isDay l D cI cZ q ((ua A 0 (uz (A 0) 7 0))) d) g_mo_65 ⟨rfl, w_mo_isDay⟩ ⟨(Nat.le_of_ble_eq_true rfl), (Nat.le_of_ble_eq_true rfl)⟩ rfl rfl (Nat.le_of_ble_eq_true rfl) ⟨rfl, rfl⟩ ⟨Nat.zero_le _, Nat.zero_le _⟩ (fun r u hu => ?_)
    obtain ⟨rfl, rfl⟩ := hu
    refine jj_if_ne X d_mo_skip_17 22 20 (by decide) rfl (fun c17 => ?_) (fun c17 => ?_)
    · have c17 := b2_t c17
      refine jj_aload_n X d_mo_skip_22 23 rfl 0 rfl ?_
      refine jj_iload_n X d_mo_skip_23 24 rfl 1 rfl ?_
      refine jj_iload_n X d_mo_skip_24 25 rfl 2 rfl ?_
      refine jj_callV0 (st := []) X d_mo_skip_25 28 rfl (c_mo_skipped l D cI cZ q ((ua A 0 (uz (A 0) 7 0))) nX x d hnX hlX) g_mo_68 ⟨rfl, w_mo_skipped⟩ ⟨(Nat.le_of_ble_eq_true rfl), (Nat.le_of_ble_eq_true rfl)⟩ rfl 0 rfl rfl rfl (Nat.le_of_ble_eq_true rfl) ⟨rfl, rfl⟩ ⟨Nat.zero_le _, Nat.zero_le _⟩ (fun r u hu => ?_)
      obtain ⟨rfl, rfl⟩ := hu
      refine jj_istore (lv' := [(0, .ref (q 0)), (1, .int x), (2, .int d), (3, .int (b2 out)), (4, .int (x_find (A 8) (A 9) x d nX 0))]) X d_mo_skip_28 30 rfl (by decide) rfl rfl ?_
      refine jj_iload_n X d_mo_skip_30 31 rfl 3 rfl ?_
      refine jj_iload X d_mo_skip_31 33 rfl 4 rfl ?_
      refine jj_iconst (v := -1) X d_mo_skip_33 34 rfl (by decide) ?_
      refine jj_icmp_eq X d_mo_skip_34 41 37 (by decide) rfl (fun c34 => ?_) (fun c34 => ?_)
      · refine jj_iconst (v := 0) X d_mo_skip_41 42 rfl (by decide) ?_
        refine jj_icmp_eq X d_mo_skip_42 58 45 (by decide) rfl (fun c42 => ?_) (fun c42 => ?_)
        · have c42 : out = false := b2_f c42
          refine jj_iconst (v := 0) X d_mo_skip_58 59 rfl (by decide) ?_
          exact jj_zret X hr hlk d_mo_skip_59 (rfl) (⟨by simp [b2, c10, c17, c34, c42], by simp [c10, c17, c34, c42]⟩)
        · have c42 : out = true := b2_t c42
          refine jj_iload_n X d_mo_skip_45 46 rfl 3 rfl ?_
          refine jj_if_eq X d_mo_skip_46 60 49 (by decide) rfl (fun c46 => ?_) (fun c46 => ?_)
          · have c46 := b2_f c46
            exact absurd (c42.symm.trans c46) (by decide)
          · have c46 := b2_t c46
            refine jj_aload_n X d_mo_skip_49 50 rfl 0 rfl ?_
            refine jj_get (v := .int (nI nX)) X d_mo_skip_50 53 rfl i_mo 7 f_mo_59 0 rfl rfl (by decide) rfl (by rw [← hnX]; rfl) ?_
            refine jj_bipush (v := 60) X d_mo_skip_53 55 rfl (by decide) ?_
            refine jj_icmp_ne X d_mo_skip_55 60 58 (by decide) rfl (fun c55 => ?_) (fun c55 => ?_)
            · have hX : nX ≠ 60 := nI_neD c55
              refine jj_iload_n X d_mo_skip_60 61 rfl 3 rfl ?_
              refine jj_if_eq X d_mo_skip_61 97 64 (by decide) rfl (fun c61 => ?_) (fun c61 => ?_)
              · have c61 := b2_f c61
                exact absurd (c42.symm.trans c61) (by decide)
              · have c61 := b2_t c61
                refine jj_aload_n X d_mo_skip_64 65 rfl 0 rfl ?_
                refine jj_get (v := .ref (q 3)) X d_mo_skip_65 68 rfl i_mo 5 f_mo_17 0 rfl rfl (by decide) rfl rfl ?_
                refine jj_aload_n X d_mo_skip_68 69 rfl 0 rfl ?_
                refine jj_get (v := .int (nI nX)) X d_mo_skip_69 72 rfl i_mo 7 f_mo_59 0 rfl rfl (by decide) rfl (by rw [← hnX]; rfl) ?_
                refine jj_iload_n X d_mo_skip_72 73 rfl 1 rfl ?_
                refine jj_iast (ws' := mw cI cZ q ((ua (ua A 0 (uz (A 0) 7 0)) 8 (upd (A 8) nX x)))) X d_mo_skip_73 74 rfl 3 0 rfl rfl (vp_in_nI (by omega) (by omega)) (by rw [nI_clamp (by omega)]; rfl) ?_
                refine jj_aload_n X d_mo_skip_74 75 rfl 0 rfl ?_
                refine jj_get (v := .ref (q 4)) X d_mo_skip_75 78 rfl i_mo 6 f_mo_20 0 rfl rfl (by decide) rfl rfl ?_
                refine jj_aload_n X d_mo_skip_78 79 rfl 0 rfl ?_
                refine jj_get (v := .int (nI nX)) X d_mo_skip_79 82 rfl i_mo 7 f_mo_59 0 rfl rfl (by decide) rfl (by rw [← hnX]; rfl) ?_
                refine jj_iload_n X d_mo_skip_82 83 rfl 2 rfl ?_
                refine jj_iast (ws' := mw cI cZ q ((ua (ua (ua A 0 (uz (A 0) 7 0)) 8 (upd (A 8) nX x)) 9 (upd (A 9) nX d)))) X d_mo_skip_83 84 rfl 4 0 rfl rfl (vp_in_nI (by omega) (by omega)) (by rw [nI_clamp (by omega)]; rfl) ?_
                refine jj_aload_n X d_mo_skip_84 85 rfl 0 rfl ?_
                refine jj_dup X d_mo_skip_85 86 rfl rfl ?_
                refine jj_get (v := .int (nI nX)) X d_mo_skip_86 89 rfl i_mo 7 f_mo_59 0 rfl rfl (by decide) rfl (by rw [← hnX]; rfl) ?_
                refine jj_iconst (v := 1) X d_mo_skip_89 90 rfl (by decide) ?_
                refine jj_iadd X d_mo_skip_90 91 rfl ?_
                refine jj_topv (y := nI (nX + 1)) (nI_1 _) ?_
                refine jj_put (ty := .int) (ws' := mw cI cZ q ((ua (ua (ua A 0 (uz (uz (A 0) 7 0) 2 (nI (nX + 1)))) 8 (upd (A 8) nX x)) 9 (upd (A 9) nX d)))) X d_mo_skip_91 94 rfl i_mo t_mo t_mo_ok n_mo 7 f_mo_59 0 rfl rfl (by decide) rfl rfl (by decide +kernel) rfl rfl (Nat.le_of_ble_eq_true rfl) rfl ?_
                refine jj_goto X d_mo_skip_94 139 (by decide) ?_
                refine jj_iconst (v := 1) X d_mo_skip_139 140 rfl (by decide) ?_
                exact jj_zret X hr hlk d_mo_skip_140 (rfl) (⟨by simp [b2, c10, c17, c34, c42, hX], by simp [c10, c17, c34, c42, hX]⟩)
            · have hX : nX = 60 := nI_eqD c55 (by omega) (by omega)
              refine jj_iconst (v := 0) X d_mo_skip_58 59 rfl (by decide) ?_
              exact jj_zret X hr hlk d_mo_skip_59 (rfl) (⟨by simp [b2, c10, c17, c34, c42, hX], by simp [c10, c17, c34, c42, hX]⟩)
      · obtain ⟨j, -, hj, ej, -, -⟩ := (x_find_r (f := A 8) (g := A 9) (a := x) (b := d) nX 0).resolve_left c34
        have hin : vp_in (x_find (A 8) (A 9) x d nX 0) 60 := by rw [ej]; exact vp_in_nI (by omega) (by omega)
        refine jj_iconst (v := 1) X d_mo_skip_37 38 rfl (by decide) ?_
        refine jj_goto X d_mo_skip_38 42 (by decide) ?_
        refine jj_icmp_eq X d_mo_skip_42 58 45 (by decide) rfl (fun c42 => ?_) (fun c42 => ?_)
        · have c42 : out = true := b2_1 c42
          refine jj_iconst (v := 0) X d_mo_skip_58 59 rfl (by decide) ?_
          exact jj_zret X hr hlk d_mo_skip_59 (rfl) (⟨by simp [b2, c10, c17, c34, c42], by simp [c10, c17, c34, c42]⟩)
        · have c42 : out = false := b2_n1 c42
          refine jj_iload_n X d_mo_skip_45 46 rfl 3 rfl ?_
          refine jj_if_eq X d_mo_skip_46 60 49 (by decide) rfl (fun c46 => ?_) (fun c46 => ?_)
          · have c46 := b2_f c46
            refine jj_iload_n X d_mo_skip_60 61 rfl 3 rfl ?_
            refine jj_if_eq X d_mo_skip_61 97 64 (by decide) rfl (fun c61 => ?_) (fun c61 => ?_)
            · have c61 := b2_f c61
              refine jj_aload_n X d_mo_skip_97 98 rfl 0 rfl ?_
              refine jj_dup X d_mo_skip_98 99 rfl rfl ?_
              refine jj_get (v := .int (nI nX)) X d_mo_skip_99 102 rfl i_mo 7 f_mo_59 0 rfl rfl (by decide) rfl (by rw [← hnX]; rfl) ?_
              refine jj_iconst (v := 1) X d_mo_skip_102 103 rfl (by decide) ?_
              refine jj_isub X d_mo_skip_103 104 rfl ?_
              refine jj_topv (y := nI (nX - 1)) (pk_sub (b := 1) (by omega)) ?_
              refine jj_put (ty := .int) (ws' := mw cI cZ q ((ua A 0 (uz (uz (A 0) 7 0) 2 (nI (nX - 1)))))) X d_mo_skip_104 107 rfl i_mo t_mo t_mo_ok n_mo 7 f_mo_59 0 rfl rfl (by decide) rfl rfl (by decide +kernel) rfl rfl (Nat.le_of_ble_eq_true rfl) rfl ?_
              refine jj_aload_n X d_mo_skip_107 108 rfl 0 rfl ?_
              refine jj_get (v := .ref (q 3)) X d_mo_skip_108 111 rfl i_mo 5 f_mo_17 0 rfl rfl (by decide) rfl rfl ?_
              refine jj_iload X d_mo_skip_111 113 rfl 4 rfl ?_
              refine jj_aload_n X d_mo_skip_113 114 rfl 0 rfl ?_
              refine jj_get (v := .ref (q 3)) X d_mo_skip_114 117 rfl i_mo 5 f_mo_17 0 rfl rfl (by decide) rfl rfl ?_
              refine jj_aload_n X d_mo_skip_117 118 rfl 0 rfl ?_
              refine jj_get (v := .int (nI (nX - 1))) X d_mo_skip_118 121 rfl i_mo 7 f_mo_59 0 rfl rfl (by decide) rfl rfl ?_
              refine jj_iald (v := A 8 (nX - 1)) X d_mo_skip_121 122 rfl 3 0 rfl rfl (vp_in_nI (by omega) (by omega)) (ar_cl (by omega)) ?_
              refine jj_iast (ws' := mw cI cZ q ((ua (ua A 0 (uz (uz (A 0) 7 0) 2 (nI (nX - 1)))) 8 (upd (A 8) ((x_find (A 8) (A 9) x d nX 0).toNatClampNeg) (A 8 (nX - 1)))))) X d_mo_skip_122 123 rfl 3 0 rfl rfl (hin) rfl ?_
              refine jj_aload_n X d_mo_skip_123 124 rfl 0 rfl ?_
              refine jj_get (v := .ref (q 4)) X d_mo_skip_124 127 rfl i_mo 6 f_mo_20 0 rfl rfl (by decide) rfl rfl ?_
              refine jj_iload X d_mo_skip_127 129 rfl 4 rfl ?_
              refine jj_aload_n X d_mo_skip_129 130 rfl 0 rfl ?_
              refine jj_get (v := .ref (q 4)) X d_mo_skip_130 133 rfl i_mo 6 f_mo_20 0 rfl rfl (by decide) rfl rfl ?_
              refine jj_aload_n X d_mo_skip_133 134 rfl 0 rfl ?_
              refine jj_get (v := .int (nI (nX - 1))) X d_mo_skip_134 137 rfl i_mo 7 f_mo_59 0 rfl rfl (by decide) rfl rfl ?_
              refine jj_iald (v := A 9 (nX - 1)) X d_mo_skip_137 138 rfl 4 0 rfl rfl (vp_in_nI (by omega) (by omega)) (ar_cl (by omega)) ?_
              refine jj_iast (ws' := mw cI cZ q ((ua (ua (ua A 0 (uz (uz (A 0) 7 0) 2 (nI (nX - 1)))) 8 (upd (A 8) ((x_find (A 8) (A 9) x d nX 0).toNatClampNeg) (A 8 (nX - 1)))) 9 (upd (A 9) ((x_find (A 8) (A 9) x d nX 0).toNatClampNeg) (A 9 (nX - 1)))))) X d_mo_skip_138 139 rfl 4 0 rfl rfl (hin) rfl ?_
              refine jj_iconst (v := 1) X d_mo_skip_139 140 rfl (by decide) ?_
              exact jj_zret X hr hlk d_mo_skip_140 (rfl) (⟨by simp [b2, c10, c17, c34, c42], by simp [c10, c17, c34, c42]⟩)
            · have c61 := b2_t c61
              exact absurd (c42.symm.trans c61) (by decide)
          · have c46 := b2_t c46
            exact absurd (c42.symm.trans c46) (by decide)
    · have c17 := b2_f c17
      refine jj_iconst (v := 0) X d_mo_skip_20 21 rfl (by decide) ?_
      exact jj_zret X hr hlk d_mo_skip_21 (rfl) (⟨by simp [*], by simp [*]⟩)
set_option maxRecDepth 100000 in
set_option maxHeartbeats 4000000 in
theorem c_mo_copy (l : Launch) (D : va_G) (cI cZ : ClassId) (q : Nat → Nat) (A : Rows) (nP : Nat) (nC : Nat) (x : Int32) (hnP : A 0 0 = nI nP) (hlP : nP ≤ 12) (hnC : A 0 3 = nI nC) (hlC : nC ≤ 60) : mt_I l D cls_ [(cI, .int), (cZ, .boolean)] nst_ y_mo_copy (Cond.code y_mo_copy b_mo_copy 2 (some .int) :: gt_) (rmd 1) [.ref (q 0), .int x] (mw cI cZ q A) (fun r u => r = (if (hN (nI nP) x && !decide (nC = 60)) = true then nI (nC + 1) else 0) ∧ u = mw cI cZ q (if (hN (nI nP) x && !decide (nC = 60)) = true then (ua (ua (ua A 0 (uz (uz (A 0) 7 0) 3 (nI (nC + 1)))) 10 (upd (A 10) (nC + 1) x)) 11 (upd (A 11) (nC + 1) x)) else (ua A 0 (uz (A 0) 7 0)))) := by
  refine mt_I_of (by decide) (Nat.le_of_ble_eq_true rfl) ?_
  intro p e s m below meth c AA X hr hlk
  refine jj_lve (lv' := [(0, .ref (q 0)), (1, .int x)]) rfl ?_
  refine jj_aload_n X d_mo_copy_0 1 rfl 0 rfl ?_
  refine jj_iconst (v := 0) X d_mo_copy_1 2 rfl (by decide) ?_
  refine jj_put (ty := .int) (ws' := mw cI cZ q ((ua A 0 (uz (A 0) 7 0)))) X d_mo_copy_2 5 rfl i_mo t_mo t_mo_ok n_mo 0 f_mo_38 0 rfl rfl (by decide) rfl rfl (by decide +kernel) rfl rfl (Nat.le_of_ble_eq_true rfl) rfl ?_
  refine jj_aload_n X d_mo_copy_5 6 rfl 0 rfl ?_
  refine jj_iload_n X d_mo_copy_6 7 rfl 1 rfl ?_
  refine jj_callV0 (st := []) X d_mo_copy_7 10 rfl (c_mo_isPlace l D cI cZ q ((ua A 0 (uz (A 0) 7 0))) nP x hnP hlP) g_mo_55 ⟨rfl, w_mo_isPlace⟩ ⟨(Nat.le_of_ble_eq_true rfl), (Nat.le_of_ble_eq_true rfl)⟩ rfl 0 rfl rfl rfl (Nat.le_of_ble_eq_true rfl) ⟨rfl, rfl⟩ ⟨Nat.zero_le _, Nat.zero_le _⟩ (fun r u hu => ?_)
  obtain ⟨rfl, rfl⟩ := hu
  refine jj_if_eq X d_mo_copy_10 22 13 (by decide) rfl (fun c10 => ?_) (fun c10 => ?_)
  · have c10 := b2_f c10
    refine jj_iconst (v := 0) X d_mo_copy_22 23 rfl (by decide) ?_
    exact jj_iret X hr hlk d_mo_copy_23 (⟨by simp [*], by simp [*]⟩)
  · have c10 := b2_t c10
    refine jj_aload_n X d_mo_copy_13 14 rfl 0 rfl ?_
    refine jj_get (v := .int (nI nC)) X d_mo_copy_14 17 rfl i_mo 8 f_mo_48 0 rfl rfl (by decide) rfl (by rw [← hnC]; rfl) ?_
    refine jj_bipush (v := 60) X d_mo_copy_17 19 rfl (by decide) ?_
    refine jj_icmp_ne X d_mo_copy_19 24 22 (by decide) rfl (fun c19 => ?_) (fun c19 => ?_)
    · have hC : nC ≠ 60 := nI_neD c19
      refine jj_aload_n X d_mo_copy_24 25 rfl 0 rfl ?_
      refine jj_dup X d_mo_copy_25 26 rfl rfl ?_
      refine jj_get (v := .int (nI nC)) X d_mo_copy_26 29 rfl i_mo 8 f_mo_48 0 rfl rfl (by decide) rfl (by rw [← hnC]; rfl) ?_
      refine jj_iconst (v := 1) X d_mo_copy_29 30 rfl (by decide) ?_
      refine jj_iadd X d_mo_copy_30 31 rfl ?_
      refine jj_topv (y := nI (nC + 1)) (nI_1 _) ?_
      refine jj_put (ty := .int) (ws' := mw cI cZ q ((ua A 0 (uz (uz (A 0) 7 0) 3 (nI (nC + 1)))))) X d_mo_copy_31 34 rfl i_mo t_mo t_mo_ok n_mo 8 f_mo_48 0 rfl rfl (by decide) rfl rfl (by decide +kernel) rfl rfl (Nat.le_of_ble_eq_true rfl) rfl ?_
      refine jj_aload_n X d_mo_copy_34 35 rfl 0 rfl ?_
      refine jj_get (v := .ref (q 5)) X d_mo_copy_35 38 rfl i_mo 9 f_mo_23 0 rfl rfl (by decide) rfl rfl ?_
      refine jj_iconst (v := 3) X d_mo_copy_38 39 rfl (by decide) ?_
      refine jj_aload_n X d_mo_copy_39 40 rfl 0 rfl ?_
      refine jj_get (v := .int (nI (nC + 1))) X d_mo_copy_40 43 rfl i_mo 8 f_mo_48 0 rfl rfl (by decide) rfl rfl ?_
      refine jj_imul X d_mo_copy_43 44 rfl ?_
      refine jj_topv (y := nI (3 * (nC + 1))) (pk_mul 3 _) ?_
      refine jj_iload_n X d_mo_copy_44 45 rfl 1 rfl ?_
      refine jj_iast (ws' := mw cI cZ q ((ua (ua A 0 (uz (uz (A 0) 7 0) 3 (nI (nC + 1)))) 11 (upd (A 11) ((nC + 1)) x)))) X d_mo_copy_45 46 rfl 5 0 rfl rfl (vp_in_nI (by omega) (by omega)) (by rw [nI_clamp (by omega)]; exact congrArg (fun z => List.set (mw cI cZ q ((ua A 0 (uz (uz (A 0) 7 0) 3 (nI (nC + 1)))))) 5 (q 5, .inl (cI, 183, .inl z))) (mxu3_0 _ _)) ?_
      refine jj_aload_n X d_mo_copy_46 47 rfl 0 rfl ?_
      refine jj_get (v := .ref (q 5)) X d_mo_copy_47 50 rfl i_mo 9 f_mo_23 0 rfl rfl (by decide) rfl rfl ?_
      refine jj_iconst (v := 3) X d_mo_copy_50 51 rfl (by decide) ?_
      refine jj_aload_n X d_mo_copy_51 52 rfl 0 rfl ?_
      refine jj_get (v := .int (nI (nC + 1))) X d_mo_copy_52 55 rfl i_mo 8 f_mo_48 0 rfl rfl (by decide) rfl rfl ?_
      refine jj_imul X d_mo_copy_55 56 rfl ?_
      refine jj_topv (y := nI (3 * (nC + 1))) (pk_mul 3 _) ?_
      refine jj_iconst (v := 1) X d_mo_copy_56 57 rfl (by decide) ?_
      refine jj_iadd X d_mo_copy_57 58 rfl ?_
      refine jj_topv (y := nI (3 * (nC + 1) + 1)) (nI_1 _) ?_
      refine jj_iload_n X d_mo_copy_58 59 rfl 1 rfl ?_
      refine jj_iast (ws' := mw cI cZ q ((ua (ua (ua A 0 (uz (uz (A 0) 7 0) 3 (nI (nC + 1)))) 10 (upd (A 10) ((nC + 1)) x)) 11 (upd (A 11) ((nC + 1)) x)))) X d_mo_copy_59 60 rfl 5 0 rfl rfl (vp_in_nI (by omega) (by omega)) (by rw [nI_clamp (by omega)]; exact congrArg (fun z => List.set (mw cI cZ q ((ua (ua A 0 (uz (uz (A 0) 7 0) 3 (nI (nC + 1)))) 11 (upd (A 11) ((nC + 1)) x)))) 5 (q 5, .inl (cI, 183, .inl z))) (mxu3_1 _ _)) ?_
      refine jj_aload_n X d_mo_copy_60 61 rfl 0 rfl ?_
      refine jj_get (v := .int (nI (nC + 1))) X d_mo_copy_61 64 rfl i_mo 8 f_mo_48 0 rfl rfl (by decide) rfl rfl ?_
      exact jj_iret X hr hlk d_mo_copy_64 (⟨by simp [*], by simp [*]⟩)
    · have hC : nC = 60 := nI_eqD c19 (by omega) (by omega)
      refine jj_iconst (v := 0) X d_mo_copy_22 23 rfl (by decide) ?_
      exact jj_iret X hr hlk d_mo_copy_23 (⟨by simp [*], by simp [*]⟩)
set_option maxRecDepth 100000 in
set_option maxHeartbeats 4000000 in
theorem c_mo_priority (l : Launch) (D : va_G) (cI cZ : ClassId) (q : Nat → Nat) (A : Rows) (nC : Nat) (x : Int32) (on : Bool) (hnC : A 0 3 = nI nC) (hlC : nC ≤ 60) (hrg : rgM A) : mt_I l D cls_ [(cI, .int), (cZ, .boolean)] nst_ y_mo_priority (Cond.code y_mo_priority b_mo_priority 4 (some .boolean) :: gt_) (rmd 1) [.ref (q 0), .int x, .int (b2 on)] (mw cI cZ q A) (fun r u => r = (if h1 (nI nC) x = true then A 13 x.toNatClampNeg else 0) ∧ u = mw cI cZ q (if h1 (nI nC) x = true then (ua (ua A 0 (uz (A 0) 7 0)) 13 (upd (A 13) x.toNatClampNeg (b2 on))) else (ua A 0 (uz (A 0) 7 0)))) := by
  refine mt_I_of (by decide) (Nat.le_of_ble_eq_true rfl) ?_
  intro p e s m below meth c AA X hr hlk
  refine jj_lve (lv' := [(0, .ref (q 0)), (1, .int x), (2, .int (b2 on))]) rfl ?_
  refine jj_aload_n X d_mo_priority_0 1 rfl 0 rfl ?_
  refine jj_iconst (v := 0) X d_mo_priority_1 2 rfl (by decide) ?_
  refine jj_put (ty := .int) (ws' := mw cI cZ q ((ua A 0 (uz (A 0) 7 0)))) X d_mo_priority_2 5 rfl i_mo t_mo t_mo_ok n_mo 0 f_mo_38 0 rfl rfl (by decide) rfl rfl (by decide +kernel) rfl rfl (Nat.le_of_ble_eq_true rfl) rfl ?_
  refine jj_aload_n X d_mo_priority_5 6 rfl 0 rfl ?_
  refine jj_iload_n X d_mo_priority_6 7 rfl 1 rfl ?_
  refine jj_callV0 (st := []) X d_mo_priority_7 10 rfl (c_mo_isCopy l D cI cZ q ((ua A 0 (uz (A 0) 7 0))) nC x hnC hlC) g_mo_72 ⟨rfl, w_mo_isCopy⟩ ⟨(Nat.le_of_ble_eq_true rfl), (Nat.le_of_ble_eq_true rfl)⟩ rfl 0 rfl rfl rfl (Nat.le_of_ble_eq_true rfl) ⟨rfl, rfl⟩ ⟨Nat.zero_le _, Nat.zero_le _⟩ (fun r u hu => ?_)
  obtain ⟨rfl, rfl⟩ := hu
  refine jj_if_ne X d_mo_priority_10 15 13 (by decide) rfl (fun c10 => ?_) (fun c10 => ?_)
  · have c10 := b2_t c10
    have hx : vp_in x 61 := h1_in c10 (by rw [nI_toInt (by omega)]; omega)
    refine jj_aload_n X d_mo_priority_15 16 rfl 0 rfl ?_
    refine jj_get (v := .ref (q 6)) X d_mo_priority_16 19 rfl i_mo 10 f_mo_26 0 rfl rfl (by decide) rfl rfl ?_
    refine jj_iload_n X d_mo_priority_19 20 rfl 1 rfl ?_
    refine jj_zald (v := A 13 x.toNatClampNeg) X d_mo_priority_20 21 rfl 6 1 rfl rfl (by assumption) (rfl) ?_
    refine jj_istore_n (lv' := [(0, .ref (q 0)), (1, .int x), (2, .int (b2 on)), (3, .int (A 13 x.toNatClampNeg))]) X d_mo_priority_21 22 rfl (by decide) rfl rfl ?_
    refine jj_aload_n X d_mo_priority_22 23 rfl 0 rfl ?_
    refine jj_get (v := .ref (q 6)) X d_mo_priority_23 26 rfl i_mo 10 f_mo_26 0 rfl rfl (by decide) rfl rfl ?_
    refine jj_iload_n X d_mo_priority_26 27 rfl 1 rfl ?_
    refine jj_iload_n X d_mo_priority_27 28 rfl 2 rfl ?_
    refine jj_zast (ws' := mw cI cZ q ((ua (ua A 0 (uz (A 0) 7 0)) 13 (upd (A 13) x.toNatClampNeg (b2 on))))) X d_mo_priority_28 29 rfl 6 1 rfl rfl (by assumption) (b2_vp _) rfl ?_
    refine jj_iload_n X d_mo_priority_29 30 rfl 3 rfl ?_
    exact jj_zret X hr hlk d_mo_priority_30 (isB_nar (hrg.2.2.2.2.1 _)) (⟨by simp [*], by simp [*]⟩)
  · have c10 := b2_f c10
    refine jj_iconst (v := 0) X d_mo_priority_13 14 rfl (by decide) ?_
    exact jj_zret X hr hlk d_mo_priority_14 (rfl) (⟨by simp [*], by simp [*]⟩)
set_option maxRecDepth 100000 in
set_option maxHeartbeats 4000000 in
theorem c_mo_floats (l : Launch) (D : va_G) (cI cZ : ClassId) (q : Nat → Nat) (A : Rows) (nC : Nat) (x : Int32) (on : Bool) (hnC : A 0 3 = nI nC) (hlC : nC ≤ 60) (hrg : rgM A) : mt_I l D cls_ [(cI, .int), (cZ, .boolean)] nst_ y_mo_floats (Cond.code y_mo_floats b_mo_floats 4 (some .boolean) :: gt_) (rmd 1) [.ref (q 0), .int x, .int (b2 on)] (mw cI cZ q A) (fun r u => r = (if h1 (nI nC) x = true then A 14 x.toNatClampNeg else 0) ∧ u = mw cI cZ q (if h1 (nI nC) x = true then (ua (ua A 0 (uz (A 0) 7 0)) 14 (upd (A 14) x.toNatClampNeg (b2 on))) else (ua A 0 (uz (A 0) 7 0)))) := by
  refine mt_I_of (by decide) (Nat.le_of_ble_eq_true rfl) ?_
  intro p e s m below meth c AA X hr hlk
  refine jj_lve (lv' := [(0, .ref (q 0)), (1, .int x), (2, .int (b2 on))]) rfl ?_
  refine jj_aload_n X d_mo_floats_0 1 rfl 0 rfl ?_
  refine jj_iconst (v := 0) X d_mo_floats_1 2 rfl (by decide) ?_
  refine jj_put (ty := .int) (ws' := mw cI cZ q ((ua A 0 (uz (A 0) 7 0)))) X d_mo_floats_2 5 rfl i_mo t_mo t_mo_ok n_mo 0 f_mo_38 0 rfl rfl (by decide) rfl rfl (by decide +kernel) rfl rfl (Nat.le_of_ble_eq_true rfl) rfl ?_
  refine jj_aload_n X d_mo_floats_5 6 rfl 0 rfl ?_
  refine jj_iload_n X d_mo_floats_6 7 rfl 1 rfl ?_
  refine jj_callV0 (st := []) X d_mo_floats_7 10 rfl (c_mo_isCopy l D cI cZ q ((ua A 0 (uz (A 0) 7 0))) nC x hnC hlC) g_mo_72 ⟨rfl, w_mo_isCopy⟩ ⟨(Nat.le_of_ble_eq_true rfl), (Nat.le_of_ble_eq_true rfl)⟩ rfl 0 rfl rfl rfl (Nat.le_of_ble_eq_true rfl) ⟨rfl, rfl⟩ ⟨Nat.zero_le _, Nat.zero_le _⟩ (fun r u hu => ?_)
  obtain ⟨rfl, rfl⟩ := hu
  refine jj_if_ne X d_mo_floats_10 15 13 (by decide) rfl (fun c10 => ?_) (fun c10 => ?_)
  · have c10 := b2_t c10
    have hx : vp_in x 61 := h1_in c10 (by rw [nI_toInt (by omega)]; omega)
    refine jj_aload_n X d_mo_floats_15 16 rfl 0 rfl ?_
    refine jj_get (v := .ref (q 7)) X d_mo_floats_16 19 rfl i_mo 11 f_mo_29 0 rfl rfl (by decide) rfl rfl ?_
    refine jj_iload_n X d_mo_floats_19 20 rfl 1 rfl ?_
    refine jj_zald (v := A 14 x.toNatClampNeg) X d_mo_floats_20 21 rfl 7 1 rfl rfl (by assumption) (rfl) ?_
    refine jj_istore_n (lv' := [(0, .ref (q 0)), (1, .int x), (2, .int (b2 on)), (3, .int (A 14 x.toNatClampNeg))]) X d_mo_floats_21 22 rfl (by decide) rfl rfl ?_
    refine jj_aload_n X d_mo_floats_22 23 rfl 0 rfl ?_
    refine jj_get (v := .ref (q 7)) X d_mo_floats_23 26 rfl i_mo 11 f_mo_29 0 rfl rfl (by decide) rfl rfl ?_
    refine jj_iload_n X d_mo_floats_26 27 rfl 1 rfl ?_
    refine jj_iload_n X d_mo_floats_27 28 rfl 2 rfl ?_
    refine jj_zast (ws' := mw cI cZ q ((ua (ua A 0 (uz (A 0) 7 0)) 14 (upd (A 14) x.toNatClampNeg (b2 on))))) X d_mo_floats_28 29 rfl 7 1 rfl rfl (by assumption) (b2_vp _) rfl ?_
    refine jj_iload_n X d_mo_floats_29 30 rfl 3 rfl ?_
    exact jj_zret X hr hlk d_mo_floats_30 (isB_nar (hrg.2.2.2.2.2 _)) (⟨by simp [*], by simp [*]⟩)
  · have c10 := b2_f c10
    refine jj_iconst (v := 0) X d_mo_floats_13 14 rfl (by decide) ?_
    exact jj_zret X hr hlk d_mo_floats_14 (rfl) (⟨by simp [*], by simp [*]⟩)
set_option maxRecDepth 100000 in
set_option maxHeartbeats 4000000 in
theorem c_mo_isBefore (l : Launch) (D : va_G) (cI cZ : ClassId) (q : Nat → Nat) (A : Rows) (i j : Nat) (hrg : rgM A) (hi : i ≤ 150) (hj : j ≤ 150) : mt_I l D cls_ [(cI, .int), (cZ, .boolean)] nst_ y_mo_isBefore (Cond.code y_mo_isBefore b_mo_isBefore 7 (some .boolean) :: gt_) (rmd 0) [.ref (q 0), .int (nI i), .int (nI j)] (mw cI cZ q A) (fun r u => r = bfI A (nI i) (nI j) ∧ u = mw cI cZ q A) := by
  refine mt_I_of (by decide) (Nat.le_of_ble_eq_true rfl) ?_
  intro p e s m below meth c AA X hr hlk
  refine jj_lve (lv' := [(0, .ref (q 0)), (1, .int (nI i)), (2, .int (nI j))]) rfl ?_
  refine jj_aload_n X d_mo_isBefore_0 1 rfl 0 rfl ?_
  refine jj_get (v := .ref (q 6)) X d_mo_isBefore_1 4 rfl i_mo 10 f_mo_26 0 rfl rfl (by decide) rfl rfl ?_
  refine jj_aload_n X d_mo_isBefore_4 5 rfl 0 rfl ?_
  refine jj_get (v := .ref (q 8)) X d_mo_isBefore_5 8 rfl i_mo 13 f_mo_32 0 rfl rfl (by decide) rfl rfl ?_
  refine jj_bipush (v := 8) X d_mo_isBefore_8 10 rfl (by decide) ?_
  refine jj_iload_n X d_mo_isBefore_10 11 rfl 1 rfl ?_
  refine jj_imul X d_mo_isBefore_11 12 rfl ?_
  refine jj_topv (y := nI (8 * i)) (pk_mul 8 _) ?_
  refine jj_iald (v := A 15 i) X d_mo_isBefore_12 13 rfl 8 0 rfl rfl (vp_in_nI (by omega) (by omega)) ((ar_cl (by omega)).trans (mxr8_0 _)) ?_
  refine jj_zald (v := A 13 (A 15 i).toNatClampNeg) X d_mo_isBefore_13 14 rfl 6 1 rfl rfl (hrg.1 _) (rfl) ?_
  refine jj_istore_n (lv' := [(0, .ref (q 0)), (1, .int (nI i)), (2, .int (nI j)), (3, .int (A 13 (A 15 i).toNatClampNeg))]) X d_mo_isBefore_14 15 rfl (by decide) rfl rfl ?_
  refine jj_aload_n X d_mo_isBefore_15 16 rfl 0 rfl ?_
  refine jj_get (v := .ref (q 6)) X d_mo_isBefore_16 19 rfl i_mo 10 f_mo_26 0 rfl rfl (by decide) rfl rfl ?_
  refine jj_aload_n X d_mo_isBefore_19 20 rfl 0 rfl ?_
  refine jj_get (v := .ref (q 8)) X d_mo_isBefore_20 23 rfl i_mo 13 f_mo_32 0 rfl rfl (by decide) rfl rfl ?_
  refine jj_bipush (v := 8) X d_mo_isBefore_23 25 rfl (by decide) ?_
  refine jj_iload_n X d_mo_isBefore_25 26 rfl 2 rfl ?_
  refine jj_imul X d_mo_isBefore_26 27 rfl ?_
  refine jj_topv (y := nI (8 * j)) (pk_mul 8 _) ?_
  refine jj_iald (v := A 15 j) X d_mo_isBefore_27 28 rfl 8 0 rfl rfl (vp_in_nI (by omega) (by omega)) ((ar_cl (by omega)).trans (mxr8_0 _)) ?_
  refine jj_zald (v := A 13 (A 15 j).toNatClampNeg) X d_mo_isBefore_28 29 rfl 6 1 rfl rfl (hrg.1 _) (rfl) ?_
  refine jj_istore (lv' := [(0, .ref (q 0)), (1, .int (nI i)), (2, .int (nI j)), (3, .int (A 13 (A 15 i).toNatClampNeg)), (4, .int (A 13 (A 15 j).toNatClampNeg))]) X d_mo_isBefore_29 31 rfl (by decide) rfl rfl ?_
  refine jj_iload_n X d_mo_isBefore_31 32 rfl 3 rfl ?_
  refine jj_iload X d_mo_isBefore_32 34 rfl 4 rfl ?_
  refine jj_icmp_eq X d_mo_isBefore_34 39 37 (by decide) rfl (fun c34 => ?_) (fun c34 => ?_)
  · refine jj_aload_n X d_mo_isBefore_39 40 rfl 0 rfl ?_
    refine jj_get (v := .ref (q 8)) X d_mo_isBefore_40 43 rfl i_mo 13 f_mo_32 0 rfl rfl (by decide) rfl rfl ?_
    refine jj_bipush (v := 8) X d_mo_isBefore_43 45 rfl (by decide) ?_
    refine jj_iload_n X d_mo_isBefore_45 46 rfl 1 rfl ?_
    refine jj_imul X d_mo_isBefore_46 47 rfl ?_
    refine jj_topv (y := nI (8 * i)) (pk_mul 8 _) ?_
    refine jj_iconst (v := 4) X d_mo_isBefore_47 48 rfl (by decide) ?_
    refine jj_iadd X d_mo_isBefore_48 49 rfl ?_
    refine jj_topv (y := nI (8 * i + 4)) (nI_add _ 4) ?_
    refine jj_iald (v := A 19 i) X d_mo_isBefore_49 50 rfl 8 0 rfl rfl (vp_in_nI (by omega) (by omega)) ((ar_cl (by omega)).trans (mxr8_4 _)) ?_
    refine jj_istore (lv' := [(0, .ref (q 0)), (1, .int (nI i)), (2, .int (nI j)), (3, .int (A 13 (A 15 i).toNatClampNeg)), (4, .int (A 13 (A 15 j).toNatClampNeg)), (5, .int (A 19 i))]) X d_mo_isBefore_50 52 rfl (by decide) rfl rfl ?_
    refine jj_aload_n X d_mo_isBefore_52 53 rfl 0 rfl ?_
    refine jj_get (v := .ref (q 8)) X d_mo_isBefore_53 56 rfl i_mo 13 f_mo_32 0 rfl rfl (by decide) rfl rfl ?_
    refine jj_bipush (v := 8) X d_mo_isBefore_56 58 rfl (by decide) ?_
    refine jj_iload_n X d_mo_isBefore_58 59 rfl 2 rfl ?_
    refine jj_imul X d_mo_isBefore_59 60 rfl ?_
    refine jj_topv (y := nI (8 * j)) (pk_mul 8 _) ?_
    refine jj_iconst (v := 4) X d_mo_isBefore_60 61 rfl (by decide) ?_
    refine jj_iadd X d_mo_isBefore_61 62 rfl ?_
    refine jj_topv (y := nI (8 * j + 4)) (nI_add _ 4) ?_
    refine jj_iald (v := A 19 j) X d_mo_isBefore_62 63 rfl 8 0 rfl rfl (vp_in_nI (by omega) (by omega)) ((ar_cl (by omega)).trans (mxr8_4 _)) ?_
    refine jj_istore (lv' := [(0, .ref (q 0)), (1, .int (nI i)), (2, .int (nI j)), (3, .int (A 13 (A 15 i).toNatClampNeg)), (4, .int (A 13 (A 15 j).toNatClampNeg)), (5, .int (A 19 i)), (6, .int (A 19 j))]) X d_mo_isBefore_63 65 rfl (by decide) rfl rfl ?_
    refine jj_iload X d_mo_isBefore_65 67 rfl 5 rfl ?_
    refine jj_iload X d_mo_isBefore_67 69 rfl 6 rfl ?_
    refine jj_icmp_eq X d_mo_isBefore_69 87 72 (by decide) rfl (fun c69 => ?_) (fun c69 => ?_)
    · refine jj_iload_n X d_mo_isBefore_87 88 rfl 1 rfl ?_
      refine jj_iload_n X d_mo_isBefore_88 89 rfl 2 rfl ?_
      refine jj_icmp_ge X d_mo_isBefore_89 96 92 (by decide) rfl (fun c89 => ?_) (fun c89 => ?_)
      · have c89 := Int32.not_lt.mpr c89
        refine jj_iconst (v := 0) X d_mo_isBefore_96 97 rfl (by decide) ?_
        exact jj_zret X hr hlk d_mo_isBefore_97 (rfl) (⟨by simp [bfI, b2, nI_clamp (show i < 2 ^ 31 by omega), nI_clamp (show j < 2 ^ 31 by omega), *], rfl⟩)
      · have c89 := Int32.not_le.mp c89
        refine jj_iconst (v := 1) X d_mo_isBefore_92 93 rfl (by decide) ?_
        refine jj_goto X d_mo_isBefore_93 97 (by decide) ?_
        exact jj_zret X hr hlk d_mo_isBefore_97 (rfl) (⟨by simp [bfI, b2, nI_clamp (show i < 2 ^ 31 by omega), nI_clamp (show j < 2 ^ 31 by omega), *], rfl⟩)
    · refine jj_iload X d_mo_isBefore_72 74 rfl 5 rfl ?_
      refine jj_iload X d_mo_isBefore_74 76 rfl 6 rfl ?_
      refine jj_icmp_ge X d_mo_isBefore_76 83 79 (by decide) rfl (fun c76 => ?_) (fun c76 => ?_)
      · have c76 := Int32.not_lt.mpr c76
        refine jj_iconst (v := 0) X d_mo_isBefore_83 84 rfl (by decide) ?_
        refine jj_goto X d_mo_isBefore_84 97 (by decide) ?_
        exact jj_zret X hr hlk d_mo_isBefore_97 (rfl) (⟨by simp [bfI, b2, nI_clamp (show i < 2 ^ 31 by omega), nI_clamp (show j < 2 ^ 31 by omega), *], rfl⟩)
      · have c76 := Int32.not_le.mp c76
        refine jj_iconst (v := 1) X d_mo_isBefore_79 80 rfl (by decide) ?_
        refine jj_goto X d_mo_isBefore_80 97 (by decide) ?_
        exact jj_zret X hr hlk d_mo_isBefore_97 (rfl) (⟨by simp [bfI, b2, nI_clamp (show i < 2 ^ 31 by omega), nI_clamp (show j < 2 ^ 31 by omega), *], rfl⟩)
  · refine jj_iload_n X d_mo_isBefore_37 38 rfl 3 rfl ?_
    exact jj_zret X hr hlk d_mo_isBefore_38 (isB_nar (hrg.2.2.2.2.1 _)) (⟨by simp [bfI, b2, nI_clamp (show i < 2 ^ 31 by omega), nI_clamp (show j < 2 ^ 31 by omega), *], rfl⟩)
set_option maxRecDepth 100000 in
set_option maxHeartbeats 4000000 in
theorem c_mo_isIn (l : Launch) (D : va_G) (cI cZ : ClassId) (q : Nat → Nat) (A : Rows) (i : Nat) (a b : Int32) (hrg : rgM A) (hi : i ≤ 150) : mt_I l D cls_ [(cI, .int), (cZ, .boolean)] nst_ y_mo_isIn (Cond.code y_mo_isIn b_mo_isIn 5 (some .boolean) :: gt_) (rmd 0) [.ref (q 0), .int (nI i), .int a, .int b] (mw cI cZ q A) (fun r u => r = b2 (pBin A a b i) ∧ u = mw cI cZ q A) := by
  refine mt_I_of (by decide) (Nat.le_of_ble_eq_true rfl) ?_
  intro p e s m below meth c AA X hr hlk
  refine jj_lve (lv' := [(0, .ref (q 0)), (1, .int (nI i)), (2, .int a), (3, .int b)]) rfl ?_
  have h40 := vp_lt (hrg.2.1 i)
  refine jj_aload_n X d_mo_isIn_0 1 rfl 0 rfl ?_
  refine jj_get (v := .ref (q 8)) X d_mo_isIn_1 4 rfl i_mo 13 f_mo_32 0 rfl rfl (by decide) rfl rfl ?_
  refine jj_bipush (v := 8) X d_mo_isIn_4 6 rfl (by decide) ?_
  refine jj_iload_n X d_mo_isIn_6 7 rfl 1 rfl ?_
  refine jj_imul X d_mo_isIn_7 8 rfl ?_
  refine jj_topv (y := nI (8 * i)) (pk_mul 8 _) ?_
  refine jj_iconst (v := 1) X d_mo_isIn_8 9 rfl (by decide) ?_
  refine jj_iadd X d_mo_isIn_9 10 rfl ?_
  refine jj_topv (y := nI (8 * i + 1)) (nI_1 _) ?_
  refine jj_iald (v := A 16 i) X d_mo_isIn_10 11 rfl 8 0 rfl rfl (vp_in_nI (by omega) (by omega)) ((ar_cl (by omega)).trans (mxr8_1 _)) ?_
  refine jj_topv (y := nI (A 16 i).toNatClampNeg) (vp_nI (hrg.2.1 _)) ?_
  refine jj_istore (lv' := [(0, .ref (q 0)), (1, .int (nI i)), (2, .int a), (3, .int b), (4, .int (nI (A 16 i).toNatClampNeg))]) X d_mo_isIn_11 13 rfl (by decide) rfl rfl ?_
  refine jj_aload_n X d_mo_isIn_13 14 rfl 0 rfl ?_
  refine jj_get (v := .ref (q 8)) X d_mo_isIn_14 17 rfl i_mo 13 f_mo_32 0 rfl rfl (by decide) rfl rfl ?_
  refine jj_bipush (v := 8) X d_mo_isIn_17 19 rfl (by decide) ?_
  refine jj_iload_n X d_mo_isIn_19 20 rfl 1 rfl ?_
  refine jj_imul X d_mo_isIn_20 21 rfl ?_
  refine jj_topv (y := nI (8 * i)) (pk_mul 8 _) ?_
  refine jj_iconst (v := 2) X d_mo_isIn_21 22 rfl (by decide) ?_
  refine jj_iadd X d_mo_isIn_22 23 rfl ?_
  refine jj_topv (y := nI (8 * i + 2)) (nI_add _ 2) ?_
  refine jj_iald (v := A 17 i) X d_mo_isIn_23 24 rfl 8 0 rfl rfl (vp_in_nI (by omega) (by omega)) ((ar_cl (by omega)).trans (mxr8_2 _)) ?_
  refine jj_if_ne X d_mo_isIn_24 61 27 (by decide) rfl (fun c24 => ?_) (fun c24 => ?_)
  · refine jj_iconst (v := 0) X d_mo_isIn_61 62 rfl (by decide) ?_
    exact jj_zret X hr hlk d_mo_isIn_62 (rfl) (⟨by simp [pBin, joC, b2, *], rfl⟩)
  · refine jj_aload_n X d_mo_isIn_27 28 rfl 0 rfl ?_
    refine jj_get (v := .ref (q 2)) X d_mo_isIn_28 31 rfl i_mo 4 f_mo_13 0 rfl rfl (by decide) rfl rfl ?_
    refine jj_bipush (v := 6) X d_mo_isIn_31 33 rfl (by decide) ?_
    refine jj_iload X d_mo_isIn_33 35 rfl 4 rfl ?_
    refine jj_imul X d_mo_isIn_35 36 rfl ?_
    refine jj_topv (y := nI (6 * (A 16 i).toNatClampNeg)) (pk_mul 6 _) ?_
    refine jj_iald (v := A 2 (A 16 i).toNatClampNeg) X d_mo_isIn_36 37 rfl 2 0 rfl rfl (vp_in_nI (by omega) (by omega)) ((ar_cl (by omega)).trans (mxr6_0 _)) ?_
    refine jj_iload_n X d_mo_isIn_37 38 rfl 2 rfl ?_
    refine jj_icmp_ne X d_mo_isIn_38 61 41 (by decide) rfl (fun c38 => ?_) (fun c38 => ?_)
    · refine jj_iconst (v := 0) X d_mo_isIn_61 62 rfl (by decide) ?_
      exact jj_zret X hr hlk d_mo_isIn_62 (rfl) (⟨by simp [pBin, joC, b2, *], rfl⟩)
    · refine jj_aload_n X d_mo_isIn_41 42 rfl 0 rfl ?_
      refine jj_get (v := .ref (q 2)) X d_mo_isIn_42 45 rfl i_mo 4 f_mo_13 0 rfl rfl (by decide) rfl rfl ?_
      refine jj_bipush (v := 6) X d_mo_isIn_45 47 rfl (by decide) ?_
      refine jj_iload X d_mo_isIn_47 49 rfl 4 rfl ?_
      refine jj_imul X d_mo_isIn_49 50 rfl ?_
      refine jj_topv (y := nI (6 * (A 16 i).toNatClampNeg)) (pk_mul 6 _) ?_
      refine jj_iconst (v := 1) X d_mo_isIn_50 51 rfl (by decide) ?_
      refine jj_iadd X d_mo_isIn_51 52 rfl ?_
      refine jj_topv (y := nI (6 * (A 16 i).toNatClampNeg + 1)) (nI_1 _) ?_
      refine jj_iald (v := A 3 (A 16 i).toNatClampNeg) X d_mo_isIn_52 53 rfl 2 0 rfl rfl (vp_in_nI (by omega) (by omega)) ((ar_cl (by omega)).trans (mxr6_1 _)) ?_
      refine jj_iload_n X d_mo_isIn_53 54 rfl 3 rfl ?_
      refine jj_icmp_ne X d_mo_isIn_54 61 57 (by decide) rfl (fun c54 => ?_) (fun c54 => ?_)
      · refine jj_iconst (v := 0) X d_mo_isIn_61 62 rfl (by decide) ?_
        exact jj_zret X hr hlk d_mo_isIn_62 (rfl) (⟨by simp [pBin, joC, b2, *], rfl⟩)
      · refine jj_iconst (v := 1) X d_mo_isIn_57 58 rfl (by decide) ?_
        refine jj_goto X d_mo_isIn_58 62 (by decide) ?_
        exact jj_zret X hr hlk d_mo_isIn_62 (rfl) (⟨by simp [pBin, joC, b2, *], rfl⟩)
set_option maxRecDepth 100000 in
set_option maxHeartbeats 4000000 in
theorem c_mo_tell (l : Launch) (D : va_G) (cI cZ : ClassId) (q : Nat → Nat) (A : Rows) (nT : Nat) (a b : Int32) (hnT : A 0 6 = nI nT) (hlT : nT ≤ 100) : mt_V l D cls_ [(cI, .int), (cZ, .boolean)] nst_ y_mo_tell (Cond.code y_mo_tell b_mo_tell 3 none :: gt_) (rmd 0) [.ref (q 0), .int a, .int b] (mw cI cZ q A) (fun u => u = mw cI cZ q (ua (ua (ua A 0 (uz (A 0) 6 (nI (teN nT)))) 23 (teG nT a (A 23))) 24 (teG nT b (A 24)))) := by
  refine mt_V_of (by decide) (Nat.le_of_ble_eq_true rfl) ?_
  intro p e s m below meth c AA X hr hlk hnm
  refine jj_lve (lv' := [(0, .ref (q 0)), (1, .int a), (2, .int b)]) rfl ?_
  refine jj_aload_n X d_mo_tell_0 1 rfl 0 rfl ?_
  refine jj_get (v := .int (nI nT)) X d_mo_tell_1 4 rfl i_mo 16 f_mo_89 0 rfl rfl (by decide) rfl (by rw [← hnT]; rfl) ?_
  refine jj_bipush (v := 100) X d_mo_tell_4 6 rfl (by decide) ?_
  refine jj_icmp_ge X d_mo_tell_6 45 9 (by decide) rfl (fun c6 => ?_) (fun c6 => ?_)
  · have hnn : ¬ nT < 100 := by have := nI_leD (a := 100) (b := nT) c6 (by omega) (by omega); omega
    exact jj_vret X hr hlk d_mo_tell_45 (by rw [teN, if_neg hnn, teG, if_neg hnn, teG, if_neg hnn, ← hnT]; rfl)
  · have hnn : nT < 100 := nI_nleD (a := 100) (b := nT) c6 (by omega) (by omega)
    refine jj_aload_n X d_mo_tell_9 10 rfl 0 rfl ?_
    refine jj_get (v := .ref (q 9)) X d_mo_tell_10 13 rfl i_mo 15 f_mo_35 0 rfl rfl (by decide) rfl rfl ?_
    refine jj_iconst (v := 2) X d_mo_tell_13 14 rfl (by decide) ?_
    refine jj_aload_n X d_mo_tell_14 15 rfl 0 rfl ?_
    refine jj_get (v := .int (nI nT)) X d_mo_tell_15 18 rfl i_mo 16 f_mo_89 0 rfl rfl (by decide) rfl (by rw [← hnT]; rfl) ?_
    refine jj_imul X d_mo_tell_18 19 rfl ?_
    refine jj_topv (y := nI (2 * nT)) (pk_mul 2 _) ?_
    refine jj_iload_n X d_mo_tell_19 20 rfl 1 rfl ?_
    refine jj_iast (ws' := mw cI cZ q ((ua A 23 (upd (A 23) nT a)))) X d_mo_tell_20 21 rfl 9 0 rfl rfl (vp_in_nI (by omega) (by omega)) (by rw [nI_clamp (by omega)]; exact congrArg (fun z => List.set (mw cI cZ q A) 9 (q 9, .inl (cI, 200, .inl z))) (mxu2_0 _ _)) ?_
    refine jj_aload_n X d_mo_tell_21 22 rfl 0 rfl ?_
    refine jj_get (v := .ref (q 9)) X d_mo_tell_22 25 rfl i_mo 15 f_mo_35 0 rfl rfl (by decide) rfl rfl ?_
    refine jj_iconst (v := 2) X d_mo_tell_25 26 rfl (by decide) ?_
    refine jj_aload_n X d_mo_tell_26 27 rfl 0 rfl ?_
    refine jj_get (v := .int (nI nT)) X d_mo_tell_27 30 rfl i_mo 16 f_mo_89 0 rfl rfl (by decide) rfl (by rw [← hnT]; rfl) ?_
    refine jj_imul X d_mo_tell_30 31 rfl ?_
    refine jj_topv (y := nI (2 * nT)) (pk_mul 2 _) ?_
    refine jj_iconst (v := 1) X d_mo_tell_31 32 rfl (by decide) ?_
    refine jj_iadd X d_mo_tell_32 33 rfl ?_
    refine jj_topv (y := nI (2 * nT + 1)) (nI_1 _) ?_
    refine jj_iload_n X d_mo_tell_33 34 rfl 2 rfl ?_
    refine jj_iast (ws' := mw cI cZ q ((ua (ua A 23 (upd (A 23) nT a)) 24 (upd (A 24) nT b)))) X d_mo_tell_34 35 rfl 9 0 rfl rfl (vp_in_nI (by omega) (by omega)) (by rw [nI_clamp (by omega)]; exact congrArg (fun z => List.set (mw cI cZ q ((ua A 23 (upd (A 23) nT a)))) 9 (q 9, .inl (cI, 200, .inl z))) (mxu2_1 _ _)) ?_
    refine jj_aload_n X d_mo_tell_35 36 rfl 0 rfl ?_
    refine jj_dup X d_mo_tell_36 37 rfl rfl ?_
    refine jj_get (v := .int (nI nT)) X d_mo_tell_37 40 rfl i_mo 16 f_mo_89 0 rfl rfl (by decide) rfl (by rw [← hnT]; rfl) ?_
    refine jj_iconst (v := 1) X d_mo_tell_40 41 rfl (by decide) ?_
    refine jj_iadd X d_mo_tell_41 42 rfl ?_
    refine jj_topv (y := nI (nT + 1)) (nI_1 _) ?_
    refine jj_put (ty := .int) (ws' := mw cI cZ q ((ua (ua (ua A 0 (uz (A 0) 6 (nI (nT + 1)))) 23 (upd (A 23) nT a)) 24 (upd (A 24) nT b)))) X d_mo_tell_42 45 rfl i_mo t_mo t_mo_ok n_mo 16 f_mo_89 0 rfl rfl (by decide) rfl rfl (by decide +kernel) rfl rfl (Nat.le_of_ble_eq_true rfl) rfl ?_
    exact jj_vret X hr hlk d_mo_tell_45 (by rw [teN, if_pos hnn, teG, if_pos hnn, teG, if_pos hnn])
set_option maxRecDepth 100000 in
set_option maxHeartbeats 4000000 in
theorem c_mo_put (l : Launch) (D : va_G) (cI cZ : ClassId) (q : Nat → Nat) (A : Rows) (nL : Nat) (i : Nat) (w : Int32) (hnL : A 0 5 = nI nL) (hlL : nL ≤ 60) (hi : i ≤ 150) : mt_V l D cls_ [(cI, .int), (cZ, .boolean)] nst_ y_mo_put (Cond.code y_mo_put b_mo_put 3 none :: gt_) (rmd 0) [.ref (q 0), .int (nI i), .int w] (mw cI cZ q A) (fun u => u = mw cI cZ q (ua (ua (ua A 17 (upd (A 17) i 1)) 21 (upd (A 21) i (nI nL))) 22 (upd (A 22) i w))) := by
  refine mt_V_of (by decide) (Nat.le_of_ble_eq_true rfl) ?_
  intro p e s m below meth c AA X hr hlk hnm
  refine jj_lve (lv' := [(0, .ref (q 0)), (1, .int (nI i)), (2, .int w)]) rfl ?_
  refine jj_aload_n X d_mo_put_0 1 rfl 0 rfl ?_
  refine jj_get (v := .ref (q 8)) X d_mo_put_1 4 rfl i_mo 13 f_mo_32 0 rfl rfl (by decide) rfl rfl ?_
  refine jj_bipush (v := 8) X d_mo_put_4 6 rfl (by decide) ?_
  refine jj_iload_n X d_mo_put_6 7 rfl 1 rfl ?_
  refine jj_imul X d_mo_put_7 8 rfl ?_
  refine jj_topv (y := nI (8 * i)) (pk_mul 8 _) ?_
  refine jj_iconst (v := 2) X d_mo_put_8 9 rfl (by decide) ?_
  refine jj_iadd X d_mo_put_9 10 rfl ?_
  refine jj_topv (y := nI (8 * i + 2)) (nI_add _ 2) ?_
  refine jj_iconst (v := 1) X d_mo_put_10 11 rfl (by decide) ?_
  refine jj_iast (ws' := mw cI cZ q ((ua A 17 (upd (A 17) i 1)))) X d_mo_put_11 12 rfl 8 0 rfl rfl (vp_in_nI (by omega) (by omega)) (by rw [nI_clamp (by omega)]; exact congrArg (fun z => List.set (mw cI cZ q A) 8 (q 8, .inl (cI, 1208, .inl z))) (mxu8_2 _ _)) ?_
  refine jj_aload_n X d_mo_put_12 13 rfl 0 rfl ?_
  refine jj_get (v := .ref (q 8)) X d_mo_put_13 16 rfl i_mo 13 f_mo_32 0 rfl rfl (by decide) rfl rfl ?_
  refine jj_bipush (v := 8) X d_mo_put_16 18 rfl (by decide) ?_
  refine jj_iload_n X d_mo_put_18 19 rfl 1 rfl ?_
  refine jj_imul X d_mo_put_19 20 rfl ?_
  refine jj_topv (y := nI (8 * i)) (pk_mul 8 _) ?_
  refine jj_bipush (v := 6) X d_mo_put_20 22 rfl (by decide) ?_
  refine jj_iadd X d_mo_put_22 23 rfl ?_
  refine jj_topv (y := nI (8 * i + 6)) (nI_add _ 6) ?_
  refine jj_aload_n X d_mo_put_23 24 rfl 0 rfl ?_
  refine jj_get (v := .int (nI nL)) X d_mo_put_24 27 rfl i_mo 14 f_mo_92 0 rfl rfl (by decide) rfl (by rw [← hnL]; rfl) ?_
  refine jj_iast (ws' := mw cI cZ q ((ua (ua A 17 (upd (A 17) i 1)) 21 (upd (A 21) i (nI nL))))) X d_mo_put_27 28 rfl 8 0 rfl rfl (vp_in_nI (by omega) (by omega)) (by rw [nI_clamp (by omega)]; exact congrArg (fun z => List.set (mw cI cZ q ((ua A 17 (upd (A 17) i 1)))) 8 (q 8, .inl (cI, 1208, .inl z))) (mxu8_6 _ _)) ?_
  refine jj_aload_n X d_mo_put_28 29 rfl 0 rfl ?_
  refine jj_get (v := .ref (q 8)) X d_mo_put_29 32 rfl i_mo 13 f_mo_32 0 rfl rfl (by decide) rfl rfl ?_
  refine jj_bipush (v := 8) X d_mo_put_32 34 rfl (by decide) ?_
  refine jj_iload_n X d_mo_put_34 35 rfl 1 rfl ?_
  refine jj_imul X d_mo_put_35 36 rfl ?_
  refine jj_topv (y := nI (8 * i)) (pk_mul 8 _) ?_
  refine jj_bipush (v := 7) X d_mo_put_36 38 rfl (by decide) ?_
  refine jj_iadd X d_mo_put_38 39 rfl ?_
  refine jj_topv (y := nI (8 * i + 7)) (nI_add _ 7) ?_
  refine jj_iload_n X d_mo_put_39 40 rfl 2 rfl ?_
  refine jj_iast (ws' := mw cI cZ q ((ua (ua (ua A 17 (upd (A 17) i 1)) 21 (upd (A 21) i (nI nL))) 22 (upd (A 22) i w)))) X d_mo_put_40 41 rfl 8 0 rfl rfl (vp_in_nI (by omega) (by omega)) (by rw [nI_clamp (by omega)]; exact congrArg (fun z => List.set (mw cI cZ q ((ua (ua A 17 (upd (A 17) i 1)) 21 (upd (A 21) i (nI nL))))) 8 (q 8, .inl (cI, 1208, .inl z))) (mxu8_7 _ _)) ?_
  exact jj_vret X hr hlk d_mo_put_41 (rfl)
