set_option maxRecDepth 100000 in
set_option maxHeartbeats 4000000 in
theorem c_tr_enqueue (l : Launch) (D : va_G) (cI cZ : ClassId) (q : Nat → Nat) (A : Rows) (n : Nat) (x : Int32) (hn : A 0 7 = nI n) (hle : n < 150) (hx : vp_in x 151) (hrg : rgC A) : mt_V l D cls_ [(cI, .int), (cZ, .boolean)] nst_ y_tr_enqueue (Cond.code y_tr_enqueue b_tr_enqueue 3 none :: gt_) (rmd 1) [.ref (q 0), .int x] (tw cI cZ q A) (fun u => u = tw cI cZ q (ua (ua A 0 (uz (A 0) 7 (nI (n + 1)))) 25 (x_enq A x n (A 25)))) := by
  refine mt_V_of (by decide) (Nat.le_of_ble_eq_true rfl) ?_
  intro p e s m below meth c AA X hr hlk hnm
  refine jj_lve (lv' := [(0, .ref (q 0)), (1, .int x)]) rfl ?_
  refine jj_aload_n X d_tr_enqueue_0 1 rfl 0 rfl ?_
  refine jj_get (v := .int (nI n)) X d_tr_enqueue_1 4 rfl i_tr 7 f_tr_55 0 rfl rfl (by decide) rfl (by rw [← hn]; rfl) ?_
  refine jj_istore_n (lv' := [(0, .ref (q 0)), (1, .int x), (2, .int (nI n))]) X d_tr_enqueue_4 5 rfl (by decide) rfl rfl ?_
  refine jj_loop (fun ((k, f) : Nat × (Nat → Int32)) => k ≤ n ∧ (∀ j, vp_in (f j) 151) ∧ x_enq A x k f = x_enq A x n (A 25)) (fun ((k, f) : Nat × (Nat → Int32)) => k) (fun ((k, f) : Nat × (Nat → Int32)) => [(0, .ref (q 0)), (1, .int x), (2, .int (nI k))]) (fun ((k, f) : Nat × (Nat → Int32)) => []) (fun ((k, f) : Nat × (Nat → Int32)) => tw cI cZ q ((ua A 25 (f)))) ((n, A 25)) (⟨Nat.le_refl _, hrg.2.2.2.1, rfl⟩) rfl rfl rfl ?_
  rintro ⟨k, f⟩ hI ih5
  try dsimp only at hI ih5 ⊢
  obtain ⟨hk, hfi, hf⟩ := hI
  have hrg : rgC (ua A 25 f) := ⟨hrg.1, hrg.2.1, hrg.2.2.1, hfi, hrg.2.2.2.2⟩
  refine jj_iload_n X d_tr_enqueue_5 6 rfl 2 rfl ?_
  refine jj_if_le X d_tr_enqueue_6 45 9 (by decide) rfl (fun c6 => ?_) (fun c6 => ?_)
  · have hk0 : k = 0 := by have := nI_leD (b := 0) c6 (by omega) (by omega); omega
    subst hk0
    have hfx : upd f 0 x = x_enq A x n (A 25) := by rw [← hf]; rfl
    refine jj_aload_n X d_tr_enqueue_45 46 rfl 0 rfl ?_
    refine jj_get (v := .ref (q 32)) X d_tr_enqueue_46 49 rfl i_tr 6 f_tr_51 0 rfl rfl (by decide) rfl rfl ?_
    refine jj_iload_n X d_tr_enqueue_49 50 rfl 2 rfl ?_
    refine jj_iload_n X d_tr_enqueue_50 51 rfl 1 rfl ?_
    refine jj_iast (ws' := tw cI cZ q ((ua A 25 (upd (f) 0 x)))) X d_tr_enqueue_51 52 rfl 32 0 rfl rfl (vp_in_nI (by omega) (by omega)) (by rw [nI_clamp (by omega)]; rfl) ?_
    refine jj_aload_n X d_tr_enqueue_52 53 rfl 0 rfl ?_
    refine jj_dup X d_tr_enqueue_53 54 rfl rfl ?_
    refine jj_get (v := .int (nI n)) X d_tr_enqueue_54 57 rfl i_tr 7 f_tr_55 0 rfl rfl (by decide) rfl (by rw [← hn]; rfl) ?_
    refine jj_iconst (v := 1) X d_tr_enqueue_57 58 rfl (by decide) ?_
    refine jj_iadd X d_tr_enqueue_58 59 rfl ?_
    refine jj_topv (y := nI (n + 1)) (nI_1 _) ?_
    refine jj_put (ty := .int) (ws' := tw cI cZ q ((ua (ua A 0 (uz (A 0) 7 (nI (n + 1)))) 25 (upd (f) 0 x)))) X d_tr_enqueue_59 62 rfl i_tr t_tr t_tr_ok n_tr 7 f_tr_55 0 rfl rfl (by decide) rfl rfl (by decide +kernel) rfl rfl (Nat.le_of_ble_eq_true rfl) rfl ?_
    exact jj_vret X hr hlk d_tr_enqueue_62 (by rw [hfx])
  · obtain ⟨k, rfl⟩ : ∃ i, k = i + 1 := ⟨k - 1, by have : k ≠ 0 := fun e9 => c6 (by rw [e9]; exact Int32.le_refl _); omega⟩
    refine jj_aload_n X d_tr_enqueue_9 10 rfl 0 rfl ?_
    refine jj_iload_n X d_tr_enqueue_10 11 rfl 1 rfl ?_
    refine jj_aload_n X d_tr_enqueue_11 12 rfl 0 rfl ?_
    refine jj_get (v := .ref (q 32)) X d_tr_enqueue_12 15 rfl i_tr 6 f_tr_51 0 rfl rfl (by decide) rfl rfl ?_
    refine jj_iload_n X d_tr_enqueue_15 16 rfl 2 rfl ?_
    refine jj_iconst (v := 1) X d_tr_enqueue_16 17 rfl (by decide) ?_
    refine jj_isub X d_tr_enqueue_17 18 rfl ?_
    refine jj_topv (y := nI k) (nI_pred _) ?_
    refine jj_iald (v := f k) X d_tr_enqueue_18 19 rfl 32 0 rfl rfl (vp_in_nI (by omega) (by omega)) (ar_cl (by omega)) ?_
    refine jj_callV0 (st := []) X d_tr_enqueue_19 22 rfl (c_tr_isBefore l D cI cZ q ((ua A 25 (f))) x (f k) hrg hx (hfi _)) g_tr_219 ⟨rfl, w_tr_isBefore⟩ ⟨(Nat.le_of_ble_eq_true rfl), (Nat.le_of_ble_eq_true rfl)⟩ rfl 0 rfl rfl rfl (Nat.le_of_ble_eq_true rfl) ⟨rfl, rfl⟩ ⟨Nat.zero_le _, Nat.zero_le _⟩ (fun r u hu => ?_)
    obtain ⟨rfl, rfl⟩ := hu
    refine jj_if_eq X d_tr_enqueue_22 45 25 (by decide) rfl (fun c22 => ?_) (fun c22 => ?_)
    · have hfx : upd f (k + 1) x = x_enq A x n (A 25) := by rw [← hf]; simp [x_enq, show bfI A x (f k) = 0 from c22]
      refine jj_aload_n X d_tr_enqueue_45 46 rfl 0 rfl ?_
      refine jj_get (v := .ref (q 32)) X d_tr_enqueue_46 49 rfl i_tr 6 f_tr_51 0 rfl rfl (by decide) rfl rfl ?_
      refine jj_iload_n X d_tr_enqueue_49 50 rfl 2 rfl ?_
      refine jj_iload_n X d_tr_enqueue_50 51 rfl 1 rfl ?_
      refine jj_iast (ws' := tw cI cZ q ((ua A 25 (upd (f) ((k + 1)) x)))) X d_tr_enqueue_51 52 rfl 32 0 rfl rfl (vp_in_nI (by omega) (by omega)) (by rw [nI_clamp (by omega)]; rfl) ?_
      refine jj_aload_n X d_tr_enqueue_52 53 rfl 0 rfl ?_
      refine jj_dup X d_tr_enqueue_53 54 rfl rfl ?_
      refine jj_get (v := .int (nI n)) X d_tr_enqueue_54 57 rfl i_tr 7 f_tr_55 0 rfl rfl (by decide) rfl (by rw [← hn]; rfl) ?_
      refine jj_iconst (v := 1) X d_tr_enqueue_57 58 rfl (by decide) ?_
      refine jj_iadd X d_tr_enqueue_58 59 rfl ?_
      refine jj_topv (y := nI (n + 1)) (nI_1 _) ?_
      refine jj_put (ty := .int) (ws' := tw cI cZ q ((ua (ua A 0 (uz (A 0) 7 (nI (n + 1)))) 25 (upd (f) ((k + 1)) x)))) X d_tr_enqueue_59 62 rfl i_tr t_tr t_tr_ok n_tr 7 f_tr_55 0 rfl rfl (by decide) rfl rfl (by decide +kernel) rfl rfl (Nat.le_of_ble_eq_true rfl) rfl ?_
      exact jj_vret X hr hlk d_tr_enqueue_62 (by rw [hfx])
    · refine jj_aload_n X d_tr_enqueue_25 26 rfl 0 rfl ?_
      refine jj_get (v := .ref (q 32)) X d_tr_enqueue_26 29 rfl i_tr 6 f_tr_51 0 rfl rfl (by decide) rfl rfl ?_
      refine jj_iload_n X d_tr_enqueue_29 30 rfl 2 rfl ?_
      refine jj_aload_n X d_tr_enqueue_30 31 rfl 0 rfl ?_
      refine jj_get (v := .ref (q 32)) X d_tr_enqueue_31 34 rfl i_tr 6 f_tr_51 0 rfl rfl (by decide) rfl rfl ?_
      refine jj_iload_n X d_tr_enqueue_34 35 rfl 2 rfl ?_
      refine jj_iconst (v := 1) X d_tr_enqueue_35 36 rfl (by decide) ?_
      refine jj_isub X d_tr_enqueue_36 37 rfl ?_
      refine jj_topv (y := nI k) (nI_pred _) ?_
      refine jj_iald (v := f k) X d_tr_enqueue_37 38 rfl 32 0 rfl rfl (vp_in_nI (by omega) (by omega)) (ar_cl (by omega)) ?_
      refine jj_iast (ws' := tw cI cZ q ((ua A 25 (upd (f) ((k + 1)) (f k))))) X d_tr_enqueue_38 39 rfl 32 0 rfl rfl (vp_in_nI (by omega) (by omega)) (by rw [nI_clamp (by omega)]; rfl) ?_
      refine jj_iinc (v := nI k) (lv' := [(0, .ref (q 0)), (1, .int x), (2, .int (nI k))]) X d_tr_enqueue_39 42 rfl 2 rfl (ar_dec k) (by decide) rfl rfl ?_
      refine jj_goto X d_tr_enqueue_42 5 (by decide) ?_
      exact ih5 ((k, upd f (k + 1) (f k))) (⟨by simp only; omega, up_in hfi (hfi k), by simp only; rw [← hf]; simp [x_enq, show ¬ bfI A x (f k) = 0 from c22]⟩) (by simp only; omega)
set_option maxRecDepth 100000 in
set_option maxHeartbeats 4000000 in
theorem c_tr_queueBin (l : Launch) (D : va_G) (cI cZ : ClassId) (q : Nat → Nat) (A : Rows) (nS : Nat) (a b : Int32) (hnS : A 0 4 = nI nS) (hlS : nS ≤ 150) (hrg : rgC A) : mt_V l D cls_ [(cI, .int), (cZ, .boolean)] nst_ y_tr_queueBin (Cond.code y_tr_queueBin b_tr_queueBin 4 none :: gt_) (rmd 2) [.ref (q 0), .int a, .int b] (tw cI cZ q A) (fun u => u = tw cI cZ q ((ua (ua A 0 (uz (A 0) 7 (nI (x_qu A (pBin A a b) nS 1 0 (A 25)).1))) 25 ((x_qu A (pBin A a b) nS 1 0 (A 25)).2)))) := by
  refine mt_V_of (by decide) (Nat.le_of_ble_eq_true rfl) ?_
  intro p e s m below meth c AA X hr hlk hnm
  refine jj_lve (lv' := [(0, .ref (q 0)), (1, .int a), (2, .int b)]) rfl ?_
  refine jj_aload_n X d_tr_queueBin_0 1 rfl 0 rfl ?_
  refine jj_iconst (v := 0) X d_tr_queueBin_1 2 rfl (by decide) ?_
  refine jj_put (ty := .int) (ws' := tw cI cZ q ((ua A 0 (uz (A 0) 7 0)))) X d_tr_queueBin_2 5 rfl i_tr t_tr t_tr_ok n_tr 7 f_tr_55 0 rfl rfl (by decide) rfl rfl (by decide +kernel) rfl rfl (Nat.le_of_ble_eq_true rfl) rfl ?_
  refine jj_iconst (v := 1) X d_tr_queueBin_5 6 rfl (by decide) ?_
  refine jj_istore_n (lv' := [(0, .ref (q 0)), (1, .int a), (2, .int b), (3, .int 1)]) X d_tr_queueBin_6 7 rfl (by decide) rfl rfl ?_
  refine jj_loop (fun ((j, n1, f) : Nat × Nat × (Nat → Int32)) => 1 ≤ j ∧ j ≤ nS + 1 ∧ n1 + 1 ≤ j ∧ (∀ i, vp_in (f i) 151) ∧ x_qu A (pBin A a b) (nS + 1 - j) j n1 f = x_qu A (pBin A a b) nS 1 0 (A 25)) (fun ((j, n1, f) : Nat × Nat × (Nat → Int32)) => nS + 1 - j) (fun ((j, n1, f) : Nat × Nat × (Nat → Int32)) => [(0, .ref (q 0)), (1, .int a), (2, .int b), (3, .int (nI j))]) (fun ((j, n1, f) : Nat × Nat × (Nat → Int32)) => []) (fun ((j, n1, f) : Nat × Nat × (Nat → Int32)) => tw cI cZ q ((ua (ua A 0 (uz (A 0) 7 (nI n1))) 25 (f)))) ((1, 0, A 25)) (⟨Nat.le_refl _, by simp, by simp, hrg.2.2.2.1, rfl⟩) rfl rfl rfl ?_
  rintro ⟨j, n1, f⟩ hI ih7
  try dsimp only at hI ih7 ⊢
  obtain ⟨hj1, hj, hnj, hfi, hf⟩ := hI
  refine jj_iload_n X d_tr_queueBin_7 8 rfl 3 rfl ?_
  refine jj_aload_n X d_tr_queueBin_8 9 rfl 0 rfl ?_
  refine jj_get (v := .ref (q 5)) X d_tr_queueBin_9 12 rfl i_tr 3 f_tr_33 0 rfl rfl (by decide) rfl rfl ?_
  refine jj_get (v := .int (nI nS)) X d_tr_queueBin_12 15 rfl i_sl 6 f_tr_106 5 rfl rfl (by decide) rfl (by rw [← hnS]; rfl) ?_
  refine jj_icmp_gt X d_tr_queueBin_15 62 18 (by decide) rfl (fun c15 => ?_) (fun c15 => ?_)
  · have hjn : j = nS + 1 := by have := nI_ltD c15 (by omega) (by omega); omega
    subst hjn
    exact jj_vret X hr hlk d_tr_queueBin_62 (by rw [← hf, Nat.sub_self]; rfl)
  · have hjn : j ≤ nS := nI_nltD c15 (by omega) (by omega)
    refine jj_aload_n X d_tr_queueBin_18 19 rfl 0 rfl ?_
    refine jj_get (v := .ref (q 5)) X d_tr_queueBin_19 22 rfl i_tr 3 f_tr_33 0 rfl rfl (by decide) rfl rfl ?_
    refine jj_get (v := .ref (q 24)) X d_tr_queueBin_22 25 rfl i_sl 2 f_tr_121 5 rfl rfl (by decide) rfl rfl ?_
    refine jj_iload_n X d_tr_queueBin_25 26 rfl 3 rfl ?_
    refine jj_iald (v := A 17 j) X d_tr_queueBin_26 27 rfl 24 0 rfl rfl (vp_in_nI (by omega) (by omega)) (ar_cl (by omega)) ?_
    refine jj_if_ne X d_tr_queueBin_27 56 30 (by decide) rfl (fun c27 => ?_) (fun c27 => ?_)
    · refine jj_iinc (v := nI (j + 1)) (lv' := [(0, .ref (q 0)), (1, .int a), (2, .int b), (3, .int (nI (j + 1)))]) X d_tr_queueBin_56 59 rfl 3 rfl (ar_inc _) (by decide) rfl rfl ?_
      refine jj_goto X d_tr_queueBin_59 7 (by decide) ?_
      exact ih7 ((j + 1, n1, f)) (⟨by simp only; omega, by simp only; omega, by simp only; omega, hfi, by simp only; rw [← hf, x_qu_s hjn]; simp [pBin, *]⟩) (by simp only; omega)
    · refine jj_aload_n X d_tr_queueBin_30 31 rfl 0 rfl ?_
      refine jj_get (v := .ref (q 2)) X d_tr_queueBin_31 34 rfl i_tr 1 f_tr_19 0 rfl rfl (by decide) rfl rfl ?_
      refine jj_aload_n X d_tr_queueBin_34 35 rfl 0 rfl ?_
      refine jj_get (v := .ref (q 5)) X d_tr_queueBin_35 38 rfl i_tr 3 f_tr_33 0 rfl rfl (by decide) rfl rfl ?_
      refine jj_get (v := .ref (q 23)) X d_tr_queueBin_38 41 rfl i_sl 1 f_tr_174 5 rfl rfl (by decide) rfl rfl ?_
      refine jj_iload_n X d_tr_queueBin_41 42 rfl 3 rfl ?_
      refine jj_iald (v := A 16 j) X d_tr_queueBin_42 43 rfl 23 0 rfl rfl (vp_in_nI (by omega) (by omega)) (ar_cl (by omega)) ?_
      refine jj_iload_n X d_tr_queueBin_43 44 rfl 1 rfl ?_
      refine jj_iload_n X d_tr_queueBin_44 45 rfl 2 rfl ?_
      refine jj_callV0 (st := []) X d_tr_queueBin_45 48 rfl (c_ro_joins l D cI cZ q ((ua (ua A 0 (uz (A 0) 7 (nI n1))) 25 (f))) (A 16 j) a b (hrg.2.1 _)) g_tr_189 ⟨rfl, w_ro_joins⟩ ⟨(Nat.le_of_ble_eq_true rfl), (Nat.le_of_ble_eq_true rfl)⟩ rfl 2 rfl rfl rfl (Nat.le_of_ble_eq_true rfl) ⟨rfl, rfl⟩ ⟨Nat.zero_le _, Nat.zero_le _⟩ (fun r u hu => ?_)
      obtain ⟨rfl, rfl⟩ := hu
      refine jj_if_eq X d_tr_queueBin_48 56 51 (by decide) rfl (fun c48 => ?_) (fun c48 => ?_)
      · have c48 := b2_f c48
        have c48 : joC A (A 16 j) a b = false := c48
        refine jj_iinc (v := nI (j + 1)) (lv' := [(0, .ref (q 0)), (1, .int a), (2, .int b), (3, .int (nI (j + 1)))]) X d_tr_queueBin_56 59 rfl 3 rfl (ar_inc _) (by decide) rfl rfl ?_
        refine jj_goto X d_tr_queueBin_59 7 (by decide) ?_
        exact ih7 ((j + 1, n1, f)) (⟨by simp only; omega, by simp only; omega, by simp only; omega, hfi, by simp only; rw [← hf, x_qu_s hjn]; simp [pBin, *]⟩) (by simp only; omega)
      · have c48 := b2_t c48
        have c48 : joC A (A 16 j) a b = true := c48
        refine jj_aload_n X d_tr_queueBin_51 52 rfl 0 rfl ?_
        refine jj_iload_n X d_tr_queueBin_52 53 rfl 3 rfl ?_
        refine jj_callVv0 (st := []) X d_tr_queueBin_53 56 rfl (c_tr_enqueue l D cI cZ q ((ua (ua A 0 (uz (A 0) 7 (nI n1))) 25 (f))) n1 (nI j) rfl (by omega) (vp_in_nI (by omega) (by omega)) (rgC_25 hrg hfi)) g_tr_215 ⟨rfl, w_tr_enqueue⟩ ⟨(Nat.le_of_ble_eq_true rfl), (Nat.le_of_ble_eq_true rfl)⟩ rfl 0 rfl rfl rfl (Nat.le_of_ble_eq_true rfl) ⟨rfl, rfl⟩ ⟨Nat.zero_le _, Nat.zero_le _⟩ (fun u hu => ?_)
        obtain rfl := hu
        refine jj_wse (ws' := tw cI cZ q ((ua (ua A 0 (uz (A 0) 7 (nI (n1 + 1)))) 25 (x_enq A (nI j) n1 f)))) (congrArg (fun z => tw cI cZ q (ua (ua A 0 (uz (A 0) 7 (nI (n1 + 1)))) 25 z)) (x_enq_c (A := (ua (ua A 0 (uz (A 0) 7 (nI n1))) 25 (f))) (B := A) (fun _ _ => rfl) (nI j) n1 f)) ?_
        refine jj_iinc (v := nI (j + 1)) (lv' := [(0, .ref (q 0)), (1, .int a), (2, .int b), (3, .int (nI (j + 1)))]) X d_tr_queueBin_56 59 rfl 3 rfl (ar_inc _) (by decide) rfl rfl ?_
        refine jj_goto X d_tr_queueBin_59 7 (by decide) ?_
        exact ih7 ((j + 1, n1 + 1, x_enq A (nI j) n1 f)) (⟨by simp only; omega, by simp only; omega, by simp only; omega, x_enq_in (vp_in_nI (by omega) (by omega)) n1 f hfi, by simp only; rw [← hf, x_qu_s hjn]; simp [pBin, *]⟩) (by simp only; omega)
set_option maxRecDepth 100000 in
set_option maxHeartbeats 4000000 in
theorem c_tr_queueDue (l : Launch) (D : va_G) (cI cZ : ClassId) (q : Nat → Nat) (A : Rows) (nS : Nat) (x d : Int32) (hnS : A 0 4 = nI nS) (hlS : nS ≤ 150) (hrg : rgC A) : mt_V l D cls_ [(cI, .int), (cZ, .boolean)] nst_ y_tr_queueDue (Cond.code y_tr_queueDue b_tr_queueDue 5 none :: gt_) (rmd 2) [.ref (q 0), .int x, .int d] (tw cI cZ q A) (fun u => u = tw cI cZ q ((ua (ua A 0 (uz (A 0) 7 (nI (x_qu A (pDue A x d) nS 1 0 (A 25)).1))) 25 ((x_qu A (pDue A x d) nS 1 0 (A 25)).2)))) := by
  refine mt_V_of (by decide) (Nat.le_of_ble_eq_true rfl) ?_
  intro p e s m below meth c AA X hr hlk hnm
  refine jj_lve (lv' := [(0, .ref (q 0)), (1, .int x), (2, .int d)]) rfl ?_
  refine jj_aload_n X d_tr_queueDue_0 1 rfl 0 rfl ?_
  refine jj_iconst (v := 0) X d_tr_queueDue_1 2 rfl (by decide) ?_
  refine jj_put (ty := .int) (ws' := tw cI cZ q ((ua A 0 (uz (A 0) 7 0)))) X d_tr_queueDue_2 5 rfl i_tr t_tr t_tr_ok n_tr 7 f_tr_55 0 rfl rfl (by decide) rfl rfl (by decide +kernel) rfl rfl (Nat.le_of_ble_eq_true rfl) rfl ?_
  refine jj_iconst (v := 1) X d_tr_queueDue_5 6 rfl (by decide) ?_
  refine jj_istore_n (lv' := [(0, .ref (q 0)), (1, .int x), (2, .int d), (3, .int 1)]) X d_tr_queueDue_6 7 rfl (by decide) rfl rfl ?_
  refine jj_loop (fun ((j, n1, f) : Nat × Nat × (Nat → Int32)) => 1 ≤ j ∧ j ≤ nS + 1 ∧ n1 + 1 ≤ j ∧ (∀ i, vp_in (f i) 151) ∧ x_qu A (pDue A x d) (nS + 1 - j) j n1 f = x_qu A (pDue A x d) nS 1 0 (A 25)) (fun ((j, n1, f) : Nat × Nat × (Nat → Int32)) => nS + 1 - j) (fun ((j, n1, f) : Nat × Nat × (Nat → Int32)) => [(0, .ref (q 0)), (1, .int x), (2, .int d), (3, .int (nI j))]) (fun ((j, n1, f) : Nat × Nat × (Nat → Int32)) => []) (fun ((j, n1, f) : Nat × Nat × (Nat → Int32)) => tw cI cZ q ((ua (ua A 0 (uz (A 0) 7 (nI n1))) 25 (f)))) ((1, 0, A 25)) (⟨Nat.le_refl _, by simp, by simp, hrg.2.2.2.1, rfl⟩) rfl rfl rfl ?_
  rintro ⟨j, n1, f⟩ hI ih7
  try dsimp only at hI ih7 ⊢
  obtain ⟨hj1, hj, hnj, hfi, hf⟩ := hI
  refine jj_iload_n X d_tr_queueDue_7 8 rfl 3 rfl ?_
  refine jj_aload_n X d_tr_queueDue_8 9 rfl 0 rfl ?_
  refine jj_get (v := .ref (q 5)) X d_tr_queueDue_9 12 rfl i_tr 3 f_tr_33 0 rfl rfl (by decide) rfl rfl ?_
  refine jj_get (v := .int (nI nS)) X d_tr_queueDue_12 15 rfl i_sl 6 f_tr_106 5 rfl rfl (by decide) rfl (by rw [← hnS]; rfl) ?_
  refine jj_icmp_gt X d_tr_queueDue_15 79 18 (by decide) rfl (fun c15 => ?_) (fun c15 => ?_)
  · have hjn : j = nS + 1 := by have := nI_ltD c15 (by omega) (by omega); omega
    subst hjn
    exact jj_vret X hr hlk d_tr_queueDue_79 (by rw [← hf, Nat.sub_self]; rfl)
  · have hjn : j ≤ nS := nI_nltD c15 (by omega) (by omega)
    refine jj_aload_n X d_tr_queueDue_18 19 rfl 0 rfl ?_
    refine jj_get (v := .ref (q 5)) X d_tr_queueDue_19 22 rfl i_tr 3 f_tr_33 0 rfl rfl (by decide) rfl rfl ?_
    refine jj_get (v := .ref (q 24)) X d_tr_queueDue_22 25 rfl i_sl 2 f_tr_121 5 rfl rfl (by decide) rfl rfl ?_
    refine jj_iload_n X d_tr_queueDue_25 26 rfl 3 rfl ?_
    refine jj_iald (v := A 17 j) X d_tr_queueDue_26 27 rfl 24 0 rfl rfl (vp_in_nI (by omega) (by omega)) (ar_cl (by omega)) ?_
    refine jj_if_ne X d_tr_queueDue_27 47 30 (by decide) rfl (fun c27 => ?_) (fun c27 => ?_)
    · refine jj_iconst (v := 0) X d_tr_queueDue_47 48 rfl (by decide) ?_
      refine jj_istore (lv' := [(0, .ref (q 0)), (1, .int x), (2, .int d), (3, .int (nI j)), (4, .int 0)]) X d_tr_queueDue_48 50 rfl (by decide) rfl rfl ?_
      refine jj_iload X d_tr_queueDue_50 52 rfl 4 rfl ?_
      refine jj_if_eq X d_tr_queueDue_52 73 55 (by decide) rfl (fun c52 => ?_) (fun c52 => ?_)
      · refine jj_iinc (v := nI (j + 1)) (lv' := [(0, .ref (q 0)), (1, .int x), (2, .int d), (3, .int (nI (j + 1))), (4, .int 0)]) X d_tr_queueDue_73 76 rfl 3 rfl (ar_inc _) (by decide) rfl rfl ?_
        refine jj_goto X d_tr_queueDue_76 7 (by decide) ?_
        refine jj_lvs (lv' := [(0, .ref (q 0)), (1, .int x), (2, .int d), (3, .int (nI (j + 1)))]) (by simp) ?_
        exact ih7 ((j + 1, n1, f)) (⟨by simp only; omega, by simp only; omega, by simp only; omega, hfi, by simp only; rw [← hf, x_qu_s hjn]; simp [pDue, *]⟩) (by simp only; omega)
      · exact absurd c52 (by decide)
    · refine jj_aload_n X d_tr_queueDue_30 31 rfl 0 rfl ?_
      refine jj_get (v := .ref (q 5)) X d_tr_queueDue_31 34 rfl i_tr 3 f_tr_33 0 rfl rfl (by decide) rfl rfl ?_
      refine jj_get (v := .ref (q 23)) X d_tr_queueDue_34 37 rfl i_sl 1 f_tr_174 5 rfl rfl (by decide) rfl rfl ?_
      refine jj_iload_n X d_tr_queueDue_37 38 rfl 3 rfl ?_
      refine jj_iald (v := A 16 j) X d_tr_queueDue_38 39 rfl 23 0 rfl rfl (vp_in_nI (by omega) (by omega)) (ar_cl (by omega)) ?_
      refine jj_iload_n X d_tr_queueDue_39 40 rfl 1 rfl ?_
      refine jj_icmp_ne X d_tr_queueDue_40 47 43 (by decide) rfl (fun c40 => ?_) (fun c40 => ?_)
      · refine jj_iconst (v := 0) X d_tr_queueDue_47 48 rfl (by decide) ?_
        refine jj_istore (lv' := [(0, .ref (q 0)), (1, .int x), (2, .int d), (3, .int (nI j)), (4, .int 0)]) X d_tr_queueDue_48 50 rfl (by decide) rfl rfl ?_
        refine jj_iload X d_tr_queueDue_50 52 rfl 4 rfl ?_
        refine jj_if_eq X d_tr_queueDue_52 73 55 (by decide) rfl (fun c52 => ?_) (fun c52 => ?_)
        · refine jj_iinc (v := nI (j + 1)) (lv' := [(0, .ref (q 0)), (1, .int x), (2, .int d), (3, .int (nI (j + 1))), (4, .int 0)]) X d_tr_queueDue_73 76 rfl 3 rfl (ar_inc _) (by decide) rfl rfl ?_
          refine jj_goto X d_tr_queueDue_76 7 (by decide) ?_
          refine jj_lvs (lv' := [(0, .ref (q 0)), (1, .int x), (2, .int d), (3, .int (nI (j + 1)))]) (by simp) ?_
          exact ih7 ((j + 1, n1, f)) (⟨by simp only; omega, by simp only; omega, by simp only; omega, hfi, by simp only; rw [← hf, x_qu_s hjn]; simp [pDue, *]⟩) (by simp only; omega)
        · exact absurd c52 (by decide)
      · refine jj_iconst (v := 1) X d_tr_queueDue_43 44 rfl (by decide) ?_
        refine jj_goto X d_tr_queueDue_44 48 (by decide) ?_
        refine jj_istore (lv' := [(0, .ref (q 0)), (1, .int x), (2, .int d), (3, .int (nI j)), (4, .int 1)]) X d_tr_queueDue_48 50 rfl (by decide) rfl rfl ?_
        refine jj_iload X d_tr_queueDue_50 52 rfl 4 rfl ?_
        refine jj_if_eq X d_tr_queueDue_52 73 55 (by decide) rfl (fun c52 => ?_) (fun c52 => ?_)
        · exact absurd c52 (by decide)
        · refine jj_aload_n X d_tr_queueDue_55 56 rfl 0 rfl ?_
          refine jj_get (v := .ref (q 5)) X d_tr_queueDue_56 59 rfl i_tr 3 f_tr_33 0 rfl rfl (by decide) rfl rfl ?_
          refine jj_get (v := .ref (q 26)) X d_tr_queueDue_59 62 rfl i_sl 4 f_tr_171 5 rfl rfl (by decide) rfl rfl ?_
          refine jj_iload_n X d_tr_queueDue_62 63 rfl 3 rfl ?_
          refine jj_iald (v := A 19 j) X d_tr_queueDue_63 64 rfl 26 0 rfl rfl (vp_in_nI (by omega) (by omega)) (ar_cl (by omega)) ?_
          refine jj_iload_n X d_tr_queueDue_64 65 rfl 2 rfl ?_
          refine jj_icmp_gt X d_tr_queueDue_65 73 68 (by decide) rfl (fun c65 => ?_) (fun c65 => ?_)
          · have c65 := Int32.not_le.mpr c65
            refine jj_iinc (v := nI (j + 1)) (lv' := [(0, .ref (q 0)), (1, .int x), (2, .int d), (3, .int (nI (j + 1))), (4, .int 1)]) X d_tr_queueDue_73 76 rfl 3 rfl (ar_inc _) (by decide) rfl rfl ?_
            refine jj_goto X d_tr_queueDue_76 7 (by decide) ?_
            refine jj_lvs (lv' := [(0, .ref (q 0)), (1, .int x), (2, .int d), (3, .int (nI (j + 1)))]) (by simp) ?_
            exact ih7 ((j + 1, n1, f)) (⟨by simp only; omega, by simp only; omega, by simp only; omega, hfi, by simp only; rw [← hf, x_qu_s hjn]; simp [pDue, *]⟩) (by simp only; omega)
          · have c65 := Int32.not_lt.mp c65
            refine jj_aload_n X d_tr_queueDue_68 69 rfl 0 rfl ?_
            refine jj_iload_n X d_tr_queueDue_69 70 rfl 3 rfl ?_
            refine jj_callVv0 (st := []) X d_tr_queueDue_70 73 rfl (c_tr_enqueue l D cI cZ q ((ua (ua A 0 (uz (A 0) 7 (nI n1))) 25 (f))) n1 (nI j) rfl (by omega) (vp_in_nI (by omega) (by omega)) (rgC_25 hrg hfi)) g_tr_215 ⟨rfl, w_tr_enqueue⟩ ⟨(Nat.le_of_ble_eq_true rfl), (Nat.le_of_ble_eq_true rfl)⟩ rfl 0 rfl rfl rfl (Nat.le_of_ble_eq_true rfl) ⟨rfl, rfl⟩ ⟨Nat.zero_le _, Nat.zero_le _⟩ (fun u hu => ?_)
            obtain rfl := hu
            refine jj_wse (ws' := tw cI cZ q ((ua (ua A 0 (uz (A 0) 7 (nI (n1 + 1)))) 25 (x_enq A (nI j) n1 f)))) (congrArg (fun z => tw cI cZ q (ua (ua A 0 (uz (A 0) 7 (nI (n1 + 1)))) 25 z)) (x_enq_c (A := (ua (ua A 0 (uz (A 0) 7 (nI n1))) 25 (f))) (B := A) (fun _ _ => rfl) (nI j) n1 f)) ?_
            refine jj_iinc (v := nI (j + 1)) (lv' := [(0, .ref (q 0)), (1, .int x), (2, .int d), (3, .int (nI (j + 1))), (4, .int 1)]) X d_tr_queueDue_73 76 rfl 3 rfl (ar_inc _) (by decide) rfl rfl ?_
            refine jj_goto X d_tr_queueDue_76 7 (by decide) ?_
            refine jj_lvs (lv' := [(0, .ref (q 0)), (1, .int x), (2, .int d), (3, .int (nI (j + 1)))]) (by simp) ?_
            exact ih7 ((j + 1, n1 + 1, x_enq A (nI j) n1 f)) (⟨by simp only; omega, by simp only; omega, by simp only; omega, x_enq_in (vp_in_nI (by omega) (by omega)) n1 f hfi, by simp only; rw [← hf, x_qu_s hjn]; simp [pDue, *]⟩) (by simp only; omega)
set_option maxRecDepth 100000 in
set_option maxHeartbeats 4000000 in
theorem c_tr_bin (l : Launch) (D : va_G) (cI cZ : ClassId) (q : Nat → Nat) (A : Rows) (nS : Nat) (a b i : Int32) (hnS : A 0 4 = nI nS) (hlS : nS ≤ 150) (hrg : rgC A) : mt_I l D cls_ [(cI, .int), (cZ, .boolean)] nst_ y_tr_bin (Cond.code y_tr_bin b_tr_bin 4 (some .int) :: gt_) (rmd 3) [.ref (q 0), .int a, .int b, .int i] (tw cI cZ q A) (fun r u => r = (if (!decide (i < 0) && !decide (nI (x_qu A (pBin A a b) nS 1 0 (A 25)).1 ≤ i)) = true then (x_qu A (pBin A a b) nS 1 0 (A 25)).2 i.toNatClampNeg else 0) ∧ u = tw cI cZ q ((ua (ua A 0 (uz (A 0) 7 (nI (x_qu A (pBin A a b) nS 1 0 (A 25)).1))) 25 ((x_qu A (pBin A a b) nS 1 0 (A 25)).2)))) := by
  refine mt_I_of (by decide) (Nat.le_of_ble_eq_true rfl) ?_
  intro p e s m below meth c AA X hr hlk
  refine jj_lve (lv' := [(0, .ref (q 0)), (1, .int a), (2, .int b), (3, .int i)]) rfl ?_
  have hqn := x_qu_n (A := A) (P := pBin A a b) nS 1 0 (A 25)
  refine jj_aload_n X d_tr_bin_0 1 rfl 0 rfl ?_
  refine jj_iload_n X d_tr_bin_1 2 rfl 1 rfl ?_
  refine jj_iload_n X d_tr_bin_2 3 rfl 2 rfl ?_
  refine jj_callVv0 (st := []) X d_tr_bin_3 6 rfl (c_tr_queueBin l D cI cZ q A nS a b hnS hlS hrg) g_tr_127 ⟨rfl, w_tr_queueBin⟩ ⟨(Nat.le_of_ble_eq_true rfl), (Nat.le_of_ble_eq_true rfl)⟩ rfl 0 rfl rfl rfl (Nat.le_of_ble_eq_true rfl) ⟨rfl, rfl⟩ ⟨Nat.zero_le _, Nat.zero_le _⟩ (fun u hu => ?_)
  obtain rfl := hu
  refine jj_iload_n X d_tr_bin_6 7 rfl 3 rfl ?_
  refine jj_if_lt X d_tr_bin_7 27 10 (by decide) rfl (fun c7 => ?_) (fun c7 => ?_)
  · refine jj_iconst (v := 0) X d_tr_bin_27 28 rfl (by decide) ?_
    exact jj_iret X hr hlk d_tr_bin_28 (⟨by simp [*], rfl⟩)
  · refine jj_iload_n X d_tr_bin_10 11 rfl 3 rfl ?_
    refine jj_aload_n X d_tr_bin_11 12 rfl 0 rfl ?_
    refine jj_get (v := .int (nI (x_qu A (pBin A a b) nS 1 0 (A 25)).1)) X d_tr_bin_12 15 rfl i_tr 7 f_tr_55 0 rfl rfl (by decide) rfl rfl ?_
    refine jj_icmp_ge X d_tr_bin_15 27 18 (by decide) rfl (fun c15 => ?_) (fun c15 => ?_)
    · refine jj_iconst (v := 0) X d_tr_bin_27 28 rfl (by decide) ?_
      exact jj_iret X hr hlk d_tr_bin_28 (⟨by simp [*], rfl⟩)
    · have hi : vp_in i 150 := hN_in (n := nI (x_qu A (pBin A a b) nS 1 0 (A 25)).1) (by simp [hN, *]) (by rw [nI_toInt (by omega)]; omega)
      refine jj_aload_n X d_tr_bin_18 19 rfl 0 rfl ?_
      refine jj_get (v := .ref (q 32)) X d_tr_bin_19 22 rfl i_tr 6 f_tr_51 0 rfl rfl (by decide) rfl rfl ?_
      refine jj_iload_n X d_tr_bin_22 23 rfl 3 rfl ?_
      refine jj_iald (v := ((x_qu A (pBin A a b) nS 1 0 (A 25)).2) i.toNatClampNeg) X d_tr_bin_23 24 rfl 32 0 rfl rfl (by assumption) (rfl) ?_
      refine jj_goto X d_tr_bin_24 28 (by decide) ?_
      exact jj_iret X hr hlk d_tr_bin_28 (⟨by simp [*], rfl⟩)
set_option maxRecDepth 100000 in
set_option maxHeartbeats 4000000 in
theorem c_tr_tellQueue (l : Launch) (D : va_G) (cI cZ : ClassId) (q : Nat → Nat) (A : Rows) (n k1 nT : Nat) (w : Int32) (hn : A 0 7 = nI n) (hle : n ≤ 150) (hk1 : k1 ≤ n) (hnT : A 0 6 = nI nT) (hlT : nT ≤ 100) : mt_V l D cls_ [(cI, .int), (cZ, .boolean)] nst_ y_tr_tellQueue (Cond.code y_tr_tellQueue b_tr_tellQueue 4 none :: gt_) (rmd 1) [.ref (q 0), .int (nI k1), .int w] (tw cI cZ q A) (fun u => u = tw cI cZ q ((ua (ua (ua A 0 (uz (A 0) 6 (nI (x_te w (A 25) (n - k1) k1 nT (A 23) (A 24)).1))) 23 ((x_te w (A 25) (n - k1) k1 nT (A 23) (A 24)).2.1)) 24 ((x_te w (A 25) (n - k1) k1 nT (A 23) (A 24)).2.2)))) := by
  refine mt_V_of (by decide) (Nat.le_of_ble_eq_true rfl) ?_
  intro p e s m below meth c AA X hr hlk hnm
  refine jj_lve (lv' := [(0, .ref (q 0)), (1, .int (nI k1)), (2, .int w)]) rfl ?_
  refine jj_iload_n X d_tr_tellQueue_0 1 rfl 1 rfl ?_
  refine jj_istore_n (lv' := [(0, .ref (q 0)), (1, .int (nI k1)), (2, .int w), (3, .int (nI k1))]) X d_tr_tellQueue_1 2 rfl (by decide) rfl rfl ?_
  refine jj_loop (fun ((k, n1, g, h) : Nat × Nat × (Nat → Int32) × (Nat → Int32)) => k ≤ n ∧ n1 ≤ 100 ∧ x_te w (A 25) (n - k) k n1 g h = (x_te w (A 25) (n - k1) k1 nT (A 23) (A 24))) (fun ((k, n1, g, h) : Nat × Nat × (Nat → Int32) × (Nat → Int32)) => n - k) (fun ((k, n1, g, h) : Nat × Nat × (Nat → Int32) × (Nat → Int32)) => [(0, .ref (q 0)), (1, .int (nI k1)), (2, .int w), (3, .int (nI k))]) (fun ((k, n1, g, h) : Nat × Nat × (Nat → Int32) × (Nat → Int32)) => []) (fun ((k, n1, g, h) : Nat × Nat × (Nat → Int32) × (Nat → Int32)) => tw cI cZ q ((ua (ua (ua A 0 (uz (A 0) 6 (nI n1))) 23 (g)) 24 (h)))) ((k1, nT, A 23, A 24)) (⟨hk1, hlT, rfl⟩) rfl rfl (by simp only; rw [← hnT]; rfl) ?_
  rintro ⟨k, n1, g, h⟩ hI ih2
  try dsimp only at hI ih2 ⊢
  obtain ⟨hk, hn1, hf⟩ := hI
  refine jj_iload_n X d_tr_tellQueue_2 3 rfl 3 rfl ?_
  refine jj_aload_n X d_tr_tellQueue_3 4 rfl 0 rfl ?_
  refine jj_get (v := .int (nI n)) X d_tr_tellQueue_4 7 rfl i_tr 7 f_tr_55 0 rfl rfl (by decide) rfl (by rw [← hn]; rfl) ?_
  refine jj_icmp_ge X d_tr_tellQueue_7 30 10 (by decide) rfl (fun c7 => ?_) (fun c7 => ?_)
  · have hkn : k = n := Nat.le_antisymm hk (nI_leD c7 (by omega) (by omega))
    exact jj_vret X hr hlk d_tr_tellQueue_30 (by rw [← hf, hkn, Nat.sub_self]; rfl)
  · have hkn : k < n := nI_nleD c7 (by omega) (by omega)
    refine jj_aload_n X d_tr_tellQueue_10 11 rfl 0 rfl ?_
    refine jj_get (v := .ref (q 7)) X d_tr_tellQueue_11 14 rfl i_tr 5 f_tr_47 0 rfl rfl (by decide) rfl rfl ?_
    refine jj_iload_n X d_tr_tellQueue_14 15 rfl 2 rfl ?_
    refine jj_aload_n X d_tr_tellQueue_15 16 rfl 0 rfl ?_
    refine jj_get (v := .ref (q 32)) X d_tr_tellQueue_16 19 rfl i_tr 6 f_tr_51 0 rfl rfl (by decide) rfl rfl ?_
    refine jj_iload_n X d_tr_tellQueue_19 20 rfl 3 rfl ?_
    refine jj_iald (v := A 25 k) X d_tr_tellQueue_20 21 rfl 32 0 rfl rfl (vp_in_nI (by omega) (by omega)) (ar_cl (by omega)) ?_
    refine jj_callVv0 (st := []) X d_tr_tellQueue_21 24 rfl (c_te_add l D cI cZ q ((ua (ua (ua A 0 (uz (A 0) 6 (nI n1))) 23 (g)) 24 (h))) n1 w (A 25 k) rfl (by omega)) g_tr_225 ⟨rfl, w_te_add⟩ ⟨(Nat.le_of_ble_eq_true rfl), (Nat.le_of_ble_eq_true rfl)⟩ rfl 7 rfl rfl rfl (Nat.le_of_ble_eq_true rfl) ⟨rfl, rfl⟩ ⟨Nat.zero_le _, Nat.zero_le _⟩ (fun u hu => ?_)
    obtain rfl := hu
    refine jj_wse (ws' := tw cI cZ q ((ua (ua (ua A 0 (uz (A 0) 6 (nI (teN n1)))) 23 (teG n1 w g)) 24 (teG n1 (A 25 k) h)))) (by unfold teN teG; split <;> rfl) ?_
    refine jj_iinc (v := nI (k + 1)) (lv' := [(0, .ref (q 0)), (1, .int (nI k1)), (2, .int w), (3, .int (nI (k + 1)))]) X d_tr_tellQueue_24 27 rfl 3 rfl (ar_inc _) (by decide) rfl rfl ?_
    refine jj_goto X d_tr_tellQueue_27 2 (by decide) ?_
    exact ih2 ((k + 1, teN n1, teG n1 w g, teG n1 (A 25 k) h)) (⟨by simp only; omega, teN_le hn1, by simp only; rw [← hf, x_te_s hkn]⟩) (by simp only; omega)
set_option maxRecDepth 100000 in
set_option maxHeartbeats 4000000 in
theorem c_tr_takeFromQueue (l : Launch) (D : va_G) (cI cZ : ClassId) (q : Nat → Nat) (A : Rows) (nL m0 e0 : Nat) (d : Int32) (hnL : A 0 5 = nI nL) (hlL : nL ≤ 60) (he : A 21 nL = nI e0) (hm : m0 ≤ 150) (hem : e0 + m0 ≤ 150) (hrg : rgC A) : mt_V l D cls_ [(cI, .int), (cZ, .boolean)] nst_ y_tr_takeFromQueue (Cond.code y_tr_takeFromQueue b_tr_takeFromQueue 5 none :: gt_) (rmd 1) [.ref (q 0), .int (nI m0), .int d] (tw cI cZ q A) (fun u => u = tw cI cZ q ((ua (ua (ua (ua A 17 ((x_ta d (A 25) m0 0 e0 (A 17) (A 19) (A 22)).2.1)) 19 ((x_ta d (A 25) m0 0 e0 (A 17) (A 19) (A 22)).2.2.1)) 21 (upd (A 21) nL (nI (x_ta d (A 25) m0 0 e0 (A 17) (A 19) (A 22)).1))) 22 ((x_ta d (A 25) m0 0 e0 (A 17) (A 19) (A 22)).2.2.2)))) := by
  refine mt_V_of (by decide) (Nat.le_of_ble_eq_true rfl) ?_
  intro p e s m below meth c AA X hr hlk hnm
  refine jj_lve (lv' := [(0, .ref (q 0)), (1, .int (nI m0)), (2, .int d)]) rfl ?_
  refine jj_iconst (v := 0) X d_tr_takeFromQueue_0 1 rfl (by decide) ?_
  refine jj_istore_n (lv' := [(0, .ref (q 0)), (1, .int (nI m0)), (2, .int d), (3, .int 0)]) X d_tr_takeFromQueue_1 2 rfl (by decide) rfl rfl ?_
  refine jj_loop (fun ((k, e1, s1, g, h) : Nat × Nat × (Nat → Int32) × (Nat → Int32) × (Nat → Int32)) => k ≤ m0 ∧ e1 = e0 + k ∧ x_ta d (A 25) (m0 - k) k e1 s1 g h = (x_ta d (A 25) m0 0 e0 (A 17) (A 19) (A 22))) (fun ((k, e1, s1, g, h) : Nat × Nat × (Nat → Int32) × (Nat → Int32) × (Nat → Int32)) => m0 - k) (fun ((k, e1, s1, g, h) : Nat × Nat × (Nat → Int32) × (Nat → Int32) × (Nat → Int32)) => [(0, .ref (q 0)), (1, .int (nI m0)), (2, .int d), (3, .int (nI k))]) (fun ((k, e1, s1, g, h) : Nat × Nat × (Nat → Int32) × (Nat → Int32) × (Nat → Int32)) => []) (fun ((k, e1, s1, g, h) : Nat × Nat × (Nat → Int32) × (Nat → Int32) × (Nat → Int32)) => tw cI cZ q ((ua (ua (ua (ua A 17 (s1)) 19 (g)) 21 (upd (A 21) nL (nI e1))) 22 (h)))) ((0, e0, A 17, A 19, A 22)) (⟨Nat.zero_le _, rfl, rfl⟩) rfl rfl (by simp only; rw [← he]; exact congrArg (fun z => tw cI cZ q (ua (ua (ua (ua A 17 (A 17)) 19 (A 19)) 21 z) 22 (A 22))) (us_ (A 21) nL)) ?_
  rintro ⟨k, e1, s1, g, h⟩ hI ih2
  try dsimp only at hI ih2 ⊢
  obtain ⟨hk, he1, hf⟩ := hI
  refine jj_iload_n X d_tr_takeFromQueue_2 3 rfl 3 rfl ?_
  refine jj_iload_n X d_tr_takeFromQueue_3 4 rfl 1 rfl ?_
  refine jj_icmp_ge X d_tr_takeFromQueue_4 52 7 (by decide) rfl (fun c4 => ?_) (fun c4 => ?_)
  · have hkn : k = m0 := Nat.le_antisymm hk (nI_leD c4 (by omega) (by omega))
    exact jj_vret X hr hlk d_tr_takeFromQueue_52 (by rw [← hf, hkn, Nat.sub_self]; rfl)
  · have hkn : k < m0 := nI_nleD c4 (by omega) (by omega)
    refine jj_aload_n X d_tr_takeFromQueue_7 8 rfl 0 rfl ?_
    refine jj_get (v := .ref (q 32)) X d_tr_takeFromQueue_8 11 rfl i_tr 6 f_tr_51 0 rfl rfl (by decide) rfl rfl ?_
    refine jj_iload_n X d_tr_takeFromQueue_11 12 rfl 3 rfl ?_
    refine jj_iald (v := A 25 k) X d_tr_takeFromQueue_12 13 rfl 32 0 rfl rfl (vp_in_nI (by omega) (by omega)) (ar_cl (by omega)) ?_
    refine jj_istore (lv' := [(0, .ref (q 0)), (1, .int (nI m0)), (2, .int d), (3, .int (nI k)), (4, .int (A 25 k))]) X d_tr_takeFromQueue_13 15 rfl (by decide) rfl rfl ?_
    refine jj_aload_n X d_tr_takeFromQueue_15 16 rfl 0 rfl ?_
    refine jj_get (v := .ref (q 5)) X d_tr_takeFromQueue_16 19 rfl i_tr 3 f_tr_33 0 rfl rfl (by decide) rfl rfl ?_
    refine jj_get (v := .ref (q 24)) X d_tr_takeFromQueue_19 22 rfl i_sl 2 f_tr_121 5 rfl rfl (by decide) rfl rfl ?_
    refine jj_iload X d_tr_takeFromQueue_22 24 rfl 4 rfl ?_
    refine jj_iconst (v := 1) X d_tr_takeFromQueue_24 25 rfl (by decide) ?_
    refine jj_iast (ws' := tw cI cZ q ((ua (ua (ua (ua A 17 (upd (s1) ((A 25 k).toNatClampNeg) 1)) 19 (g)) 21 (upd (A 21) nL (nI e1))) 22 (h)))) X d_tr_takeFromQueue_25 26 rfl 24 0 rfl rfl (hrg.2.2.2.1 _) rfl ?_
    refine jj_aload_n X d_tr_takeFromQueue_26 27 rfl 0 rfl ?_
    refine jj_get (v := .ref (q 5)) X d_tr_takeFromQueue_27 30 rfl i_tr 3 f_tr_33 0 rfl rfl (by decide) rfl rfl ?_
    refine jj_get (v := .ref (q 26)) X d_tr_takeFromQueue_30 33 rfl i_sl 4 f_tr_171 5 rfl rfl (by decide) rfl rfl ?_
    refine jj_iload X d_tr_takeFromQueue_33 35 rfl 4 rfl ?_
    refine jj_iload_n X d_tr_takeFromQueue_35 36 rfl 2 rfl ?_
    refine jj_iast (ws' := tw cI cZ q ((ua (ua (ua (ua A 17 (upd (s1) ((A 25 k).toNatClampNeg) 1)) 19 (upd (g) ((A 25 k).toNatClampNeg) d)) 21 (upd (A 21) nL (nI e1))) 22 (h)))) X d_tr_takeFromQueue_36 37 rfl 26 0 rfl rfl (hrg.2.2.2.1 _) rfl ?_
    refine jj_aload_n X d_tr_takeFromQueue_37 38 rfl 0 rfl ?_
    refine jj_get (v := .ref (q 6)) X d_tr_takeFromQueue_38 41 rfl i_tr 4 f_tr_40 0 rfl rfl (by decide) rfl rfl ?_
    refine jj_iload X d_tr_takeFromQueue_41 43 rfl 4 rfl ?_
    refine jj_callVv0 (st := []) X d_tr_takeFromQueue_43 46 rfl (c_ld_put l D cI cZ q ((ua (ua (ua (ua A 17 (upd (s1) ((A 25 k).toNatClampNeg) 1)) 19 (upd (g) ((A 25 k).toNatClampNeg) d)) 21 (upd (A 21) nL (nI e1))) 22 (h))) nL e1 (A 25 k) hnL hlL (if_pos rfl) (by omega)) g_tr_222 ⟨rfl, w_ld_put⟩ ⟨(Nat.le_of_ble_eq_true rfl), (Nat.le_of_ble_eq_true rfl)⟩ rfl 6 rfl rfl rfl (Nat.le_of_ble_eq_true rfl) ⟨rfl, rfl⟩ ⟨Nat.zero_le _, Nat.zero_le _⟩ (fun u hu => ?_)
    obtain rfl := hu
    refine jj_wse (ws' := tw cI cZ q ((ua (ua (ua (ua A 17 (upd s1 (A 25 k).toNatClampNeg 1)) 19 (upd g (A 25 k).toNatClampNeg d)) 21 (upd (A 21) nL (nI (e1 + 1)))) 22 (upd h e1 (A 25 k))))) (congrArg (fun z => tw cI cZ q (ua (ua (ua (ua A 17 (upd s1 (A 25 k).toNatClampNeg 1)) 19 (upd g (A 25 k).toNatClampNeg d)) 21 z) 22 (upd h e1 (A 25 k)))) (uu_ (A 21) nL (nI e1) (nI (e1 + 1)))) ?_
    refine jj_iinc (v := nI (k + 1)) (lv' := [(0, .ref (q 0)), (1, .int (nI m0)), (2, .int d), (3, .int (nI (k + 1))), (4, .int (A 25 k))]) X d_tr_takeFromQueue_46 49 rfl 3 rfl (ar_inc _) (by decide) rfl rfl ?_
    refine jj_goto X d_tr_takeFromQueue_49 2 (by decide) ?_
    refine jj_lvs (lv' := [(0, .ref (q 0)), (1, .int (nI m0)), (2, .int d), (3, .int (nI (k + 1)))]) (by simp) ?_
    exact ih2 ((k + 1, e1 + 1, upd s1 (A 25 k).toNatClampNeg 1, upd g (A 25 k).toNatClampNeg d, upd h e1 (A 25 k))) (⟨by simp only; omega, by simp only; omega, by simp only; rw [← hf, x_ta_s hkn]⟩) (by simp only; omega)
