section LAW
variable {p : Program} {l : Launch} {e : Env} {s : State} {m : MethodId} {args : Array Value} {below : List Frame} {meth : Method} {c : Code} {Q : State → Prop} {D : va_G} {AA : Nat → Prop} {cI cZ cL : ClassId} {q1 q2 : Nat → Nat} {qL b L j a0 : Nat} {xs : Nat → Int32} {A B : Rows} {f : Nat → Int64}
set_option maxRecDepth 100000 in
set_option maxHeartbeats 4000000 in
theorem law_17 (htr : ∀ e, l.admits e → e.platform.stackTraces = false) (how : ow a0 AA s s.heap) (X : jc_X p s m args c b_la_law 7 gt_ "TransitRowsLaw" D cls_ [(cI, .int), (cZ, .boolean), (cL, .long)] nst_ AA) (hX : va_X b L xs s s.heap) (hbl : b < s.heap.size) (hbA : ¬ AA b) (hL : L ≤ 3072) (hj : 6 * j + 6 ≤ L) (hI0 : Iv A B) (h966 : ∀ (A' B' : Rows) (f' : Nat → Int64), Iv A' B' → jc_J p l e room_1 s m args below meth c Q D cls_ AA 7 (44 + (j + 1)) (4287 + 6 * (j + 1)) 966 [(0, .ref b), (1, .ref (q1 0)), (2, .ref (q2 0)), (3, .ref qL), (4, .int (nI (6 * j)))] [] (mw cI cZ q2 B' ++ (tw cI cZ q1 A' ++ [(qL, .inl (cL, 1, .inr (.inl f')))]))) : jc_J p l e room_1 s m args below meth c Q D cls_ AA 7 (44 + j) (4287 + 6 * j) 849 [(0, .ref b), (1, .ref (q1 0)), (2, .ref (q2 0)), (3, .ref qL), (4, .int (nI (6 * j)))] [] (mw cI cZ q2 B ++ (tw cI cZ q1 A ++ [(qL, .inl (cL, 1, .inr (.inl f)))])) := by
  obtain ⟨nP, nR, nX, nC, nS, nL, nT, E, hI⟩ := hI0
  have X2 := jx_2 X
  refine jj_aload_n X d_la_law_849 850 rfl 1 rfl ?_
  refine jj_aload_n X d_la_law_850 851 rfl 0 rfl ?_
  refine jj_iload X d_la_law_851 853 rfl 4 rfl ?_
  refine jj_iconst (v := 1) X d_la_law_853 854 rfl (by decide) ?_
  refine jj_iadd X d_la_law_854 855 rfl ?_
  refine jj_topv (y := nI (6 * j + 1)) (nI_1 _) ?_
  refine jj_sld X hX hbl hbA d_la_law_855 856 rfl (vp_in_nI (by omega) (by omega)) ?_
  refine jj_topv (y := xs (6 * j + 1)) (by rw [nI_clamp (by omega)]) ?_
  refine jj_aload_n X d_la_law_856 857 rfl 0 rfl ?_
  refine jj_iload X d_la_law_857 859 rfl 4 rfl ?_
  refine jj_iconst (v := 2) X d_la_law_859 860 rfl (by decide) ?_
  refine jj_iadd X d_la_law_860 861 rfl ?_
  refine jj_topv (y := nI (6 * j + 2)) (nI_add _ 2) ?_
  refine jj_sld X hX hbl hbA d_la_law_861 862 rfl (vp_in_nI (by omega) (by omega)) ?_
  refine jj_topv (y := xs (6 * j + 2)) (by rw [nI_clamp (by omega)]) ?_
  refine jj_aload_n X d_la_law_862 863 rfl 0 rfl ?_
  refine jj_iload X d_la_law_863 865 rfl 4 rfl ?_
  refine jj_iconst (v := 3) X d_la_law_865 866 rfl (by decide) ?_
  refine jj_iadd X d_la_law_866 867 rfl ?_
  refine jj_topv (y := nI (6 * j + 3)) (nI_add _ 3) ?_
  refine jj_sld X hX hbl hbA d_la_law_867 868 rfl (vp_in_nI (by omega) (by omega)) ?_
  refine jj_topv (y := xs (6 * j + 3)) (by rw [nI_clamp (by omega)]) ?_
  refine jj_aload_n X d_la_law_868 869 rfl 3 rfl ?_
  refine jj_callSL (w1 := mw cI cZ q2 B) (w := tw cI cZ q1 A ++ [(qL, .inl (cL, 1, .inr (.inl f)))]) (w2 := []) (st := []) X how d_la_law_869 872 rfl (c_la_statistics l htr D cI cZ cL q1 A nP nS qL f (xs (6 * j + 1)) (xs (6 * j + 2)) (xs (6 * j + 3)) a0 (iv_cP hI) (iv_lP hI) (iv_cS hI) (iv_lS hI) (iv_rgC hI)) rfl (Nat.le_of_ble_eq_true rfl) (Nat.le_of_ble_eq_true rfl) (by simp) rfl (Nat.le_of_ble_eq_true rfl) (by simp only [room_1]; omega) (by simp only [room_1]; omega) (fun r1 u1 hu1 => ?_)
  have hst := op_st hI (xs (6 * j + 1)) (xs (6 * j + 2))
  rcases hu1 with ⟨thr, rfl, rfl⟩ | ⟨thr, rfl, rfl⟩
  · refine jj_istore (lv' := [(0, .ref b), (1, .ref (q1 0)), (2, .ref (q2 0)), (3, .ref qL), (4, .int (nI (6 * j))), (5, .int 1)]) X d_la_law_872 874 rfl (by decide) rfl rfl ?_
    refine jj_aload_n X d_la_law_874 875 rfl 2 rfl ?_
    refine jj_aload_n X d_la_law_875 876 rfl 0 rfl ?_
    refine jj_iload X d_la_law_876 878 rfl 4 rfl ?_
    refine jj_iconst (v := 1) X d_la_law_878 879 rfl (by decide) ?_
    refine jj_iadd X d_la_law_879 880 rfl ?_
    refine jj_topv (y := nI (6 * j + 1)) (nI_1 _) ?_
    refine jj_sld X hX hbl hbA d_la_law_880 881 rfl (vp_in_nI (by omega) (by omega)) ?_
    refine jj_topv (y := xs (6 * j + 1)) (by rw [nI_clamp (by omega)]) ?_
    refine jj_aload_n X d_la_law_881 882 rfl 0 rfl ?_
    refine jj_iload X d_la_law_882 884 rfl 4 rfl ?_
    refine jj_iconst (v := 2) X d_la_law_884 885 rfl (by decide) ?_
    refine jj_iadd X d_la_law_885 886 rfl ?_
    refine jj_topv (y := nI (6 * j + 2)) (nI_add _ 2) ?_
    refine jj_sld X hX hbl hbA d_la_law_886 887 rfl (vp_in_nI (by omega) (by omega)) ?_
    refine jj_topv (y := xs (6 * j + 2)) (by rw [nI_clamp (by omega)]) ?_
    refine jj_aload_n X d_la_law_887 888 rfl 0 rfl ?_
    refine jj_iload X d_la_law_888 890 rfl 4 rfl ?_
    refine jj_iconst (v := 3) X d_la_law_890 891 rfl (by decide) ?_
    refine jj_iadd X d_la_law_891 892 rfl ?_
    refine jj_topv (y := nI (6 * j + 3)) (nI_add _ 3) ?_
    refine jj_sld X hX hbl hbA d_la_law_892 893 rfl (vp_in_nI (by omega) (by omega)) ?_
    refine jj_topv (y := xs (6 * j + 3)) (by rw [nI_clamp (by omega)]) ?_
    refine jj_callV (w1 := []) (w := mw cI cZ q2 B) (w2 := (tw cI cZ q1 A ++ [(qL, .inl (cL, 1, .inr (.inl f)))]) ++ []) (st := []) X2 d_la_law_893 896 rfl (c_mo_statistics l D cI cZ q2 B nP nS (xs (6 * j + 1)) (xs (6 * j + 2)) (xs (6 * j + 3)) (iv_mP hI) (iv_lP hI) (iv_mS hI) (iv_lS hI) (iv_rgM hI)) g_la_98 ⟨rfl, w_mo_statistics⟩ ⟨(Nat.le_of_ble_eq_true rfl), (Nat.le_of_ble_eq_true rfl)⟩ rfl 0 rfl rfl rfl (Nat.le_of_ble_eq_true rfl) ⟨by simp only [rmd, room_1]; omega, by simp only [rmd, room_1]; omega⟩ (fun r2 u2 hu2 => ?_)
    obtain ⟨hr2, hu2⟩ := hu2
    rw [hst] at hr2 hu2
    rw [if_pos thr] at hu2
    subst hu2
    refine jj_istore (lv' := [(0, .ref b), (1, .ref (q1 0)), (2, .ref (q2 0)), (3, .ref qL), (4, .int (nI (6 * j))), (5, .int 1), (6, .int r2)]) X d_la_law_896 898 rfl (by decide) rfl rfl ?_
    refine jj_aload_n X d_la_law_898 899 rfl 2 rfl ?_
    refine jj_callV (w1 := []) (w := mw cI cZ q2 (ua B 0 (uz (B 0) 7 1))) (w2 := (tw cI cZ q1 A ++ [(qL, .inl (cL, 1, .inr (.inl f)))]) ++ []) (st := []) X2 d_la_law_899 902 rfl (c_mo_thrown l D cI cZ q2 (ua B 0 (uz (B 0) 7 1))) g_la_99 ⟨rfl, w_mo_thrown⟩ ⟨(Nat.le_of_ble_eq_true rfl), (Nat.le_of_ble_eq_true rfl)⟩ rfl 0 rfl rfl rfl (Nat.le_of_ble_eq_true rfl) ⟨by simp only [rmd, room_1]; omega, by simp only [rmd, room_1]; omega⟩ (fun r3 u3 hu3 => ?_)
    obtain ⟨hr3, rfl⟩ := hu3
    have hr3 : r3 = 1 := hr3
    subst hr3
    refine jj_iload X d_la_law_902 904 rfl 5 rfl ?_
    refine jj_icmp_eq X d_la_law_904 909 907 (by decide) rfl (fun _ => ?_) (fun c9 => absurd rfl c9)
    refine jj_iload X d_la_law_909 911 rfl 5 rfl ?_
    refine jj_if_ne X d_la_law_911 926 914 (by decide) rfl (fun _ => ?_) (fun c9 => absurd c9 (by decide))
    refine jj_goto X d_la_law_926 966 (by decide) ?_
    refine jj_lvs (lv' := [(0, .ref b), (1, .ref (q1 0)), (2, .ref (q2 0)), (3, .ref qL), (4, .int (nI (6 * j)))]) (by simp) ?_
    refine jj_widen (k' := (44 + (j + 1))) (n' := (4287 + 6 * (j + 1))) (by simp only [rmd]; omega) (by simp only [rmd]; omega) ?_
    refine jj_wse (ws' := mw cI cZ q2 (ua B 0 (uz (B 0) 7 1)) ++ (tw cI cZ q1 A ++ [(qL, .inl (cL, 1, .inr (.inl f)))])) (by simp) ?_
    exact h966 A (ua B 0 (uz (B 0) 7 1)) f ⟨nP, nR, nX, nC, nS, nL, nT, E, hI⟩
  · refine jj_istore (lv' := [(0, .ref b), (1, .ref (q1 0)), (2, .ref (q2 0)), (3, .ref qL), (4, .int (nI (6 * j))), (5, .int 0)]) X d_la_law_872 874 rfl (by decide) rfl rfl ?_
    refine jj_aload_n X d_la_law_874 875 rfl 2 rfl ?_
    refine jj_aload_n X d_la_law_875 876 rfl 0 rfl ?_
    refine jj_iload X d_la_law_876 878 rfl 4 rfl ?_
    refine jj_iconst (v := 1) X d_la_law_878 879 rfl (by decide) ?_
    refine jj_iadd X d_la_law_879 880 rfl ?_
    refine jj_topv (y := nI (6 * j + 1)) (nI_1 _) ?_
    refine jj_sld X hX hbl hbA d_la_law_880 881 rfl (vp_in_nI (by omega) (by omega)) ?_
    refine jj_topv (y := xs (6 * j + 1)) (by rw [nI_clamp (by omega)]) ?_
    refine jj_aload_n X d_la_law_881 882 rfl 0 rfl ?_
    refine jj_iload X d_la_law_882 884 rfl 4 rfl ?_
    refine jj_iconst (v := 2) X d_la_law_884 885 rfl (by decide) ?_
    refine jj_iadd X d_la_law_885 886 rfl ?_
    refine jj_topv (y := nI (6 * j + 2)) (nI_add _ 2) ?_
    refine jj_sld X hX hbl hbA d_la_law_886 887 rfl (vp_in_nI (by omega) (by omega)) ?_
    refine jj_topv (y := xs (6 * j + 2)) (by rw [nI_clamp (by omega)]) ?_
    refine jj_aload_n X d_la_law_887 888 rfl 0 rfl ?_
    refine jj_iload X d_la_law_888 890 rfl 4 rfl ?_
    refine jj_iconst (v := 3) X d_la_law_890 891 rfl (by decide) ?_
    refine jj_iadd X d_la_law_891 892 rfl ?_
    refine jj_topv (y := nI (6 * j + 3)) (nI_add _ 3) ?_
    refine jj_sld X hX hbl hbA d_la_law_892 893 rfl (vp_in_nI (by omega) (by omega)) ?_
    refine jj_topv (y := xs (6 * j + 3)) (by rw [nI_clamp (by omega)]) ?_
    refine jj_callV (w1 := []) (w := mw cI cZ q2 B) (w2 := (tw cI cZ q1 A ++ [(qL, .inl (cL, 1, .inr (.inl (vp_updL f 0 (Int32.toInt64 (if okT nP (xs (6 * j + 1)) (xs (6 * j + 2)) (xs (6 * j + 3)) = true then o_stM (x_st A (xs (6 * j + 1)) (xs (6 * j + 2)) nS 1 0 0 (-1)) (xs (6 * j + 3)) else -1))))))]) ++ []) (st := []) X2 d_la_law_893 896 rfl (c_mo_statistics l D cI cZ q2 B nP nS (xs (6 * j + 1)) (xs (6 * j + 2)) (xs (6 * j + 3)) (iv_mP hI) (iv_lP hI) (iv_mS hI) (iv_lS hI) (iv_rgM hI)) g_la_98 ⟨rfl, w_mo_statistics⟩ ⟨(Nat.le_of_ble_eq_true rfl), (Nat.le_of_ble_eq_true rfl)⟩ rfl 0 rfl rfl rfl (Nat.le_of_ble_eq_true rfl) ⟨by simp only [rmd, room_1]; omega, by simp only [rmd, room_1]; omega⟩ (fun r2 u2 hu2 => ?_)
    obtain ⟨hr2, hu2⟩ := hu2
    rw [hst] at hr2 hu2
    rw [if_neg thr] at hu2
    subst hu2
    refine jj_istore (lv' := [(0, .ref b), (1, .ref (q1 0)), (2, .ref (q2 0)), (3, .ref qL), (4, .int (nI (6 * j))), (5, .int 0), (6, .int r2)]) X d_la_law_896 898 rfl (by decide) rfl rfl ?_
    refine jj_aload_n X d_la_law_898 899 rfl 2 rfl ?_
    refine jj_callV (w1 := []) (w := mw cI cZ q2 (T0 B)) (w2 := (tw cI cZ q1 A ++ [(qL, .inl (cL, 1, .inr (.inl (vp_updL f 0 (Int32.toInt64 (if okT nP (xs (6 * j + 1)) (xs (6 * j + 2)) (xs (6 * j + 3)) = true then o_stM (x_st A (xs (6 * j + 1)) (xs (6 * j + 2)) nS 1 0 0 (-1)) (xs (6 * j + 3)) else -1))))))]) ++ []) (st := []) X2 d_la_law_899 902 rfl (c_mo_thrown l D cI cZ q2 (T0 B)) g_la_99 ⟨rfl, w_mo_thrown⟩ ⟨(Nat.le_of_ble_eq_true rfl), (Nat.le_of_ble_eq_true rfl)⟩ rfl 0 rfl rfl rfl (Nat.le_of_ble_eq_true rfl) ⟨by simp only [rmd, room_1]; omega, by simp only [rmd, room_1]; omega⟩ (fun r3 u3 hu3 => ?_)
    obtain ⟨hr3, rfl⟩ := hu3
    have hr3 : r3 = 0 := hr3
    subst hr3
    refine jj_iload X d_la_law_902 904 rfl 5 rfl ?_
    refine jj_icmp_eq X d_la_law_904 909 907 (by decide) rfl (fun _ => ?_) (fun c9 => absurd rfl c9)
    refine jj_iload X d_la_law_909 911 rfl 5 rfl ?_
    refine jj_if_ne X d_la_law_911 926 914 (by decide) rfl (fun c9 => absurd rfl c9) (fun _ => ?_)
    refine jj_aload_n X d_la_law_914 915 rfl 3 rfl ?_
    refine jj_iconst (v := 0) X d_la_law_915 916 rfl (by decide) ?_
    refine jj_lald (v := Int32.toInt64 r2) X d_la_law_916 917 rfl 43 2 rfl rfl (vp_in_nI (n := 0) (by omega) (by omega)) (by rw [hr2]; exact pk_uLs) ?_
    refine jj_iload X d_la_law_917 919 rfl 6 rfl ?_
    refine jj_i2l X d_la_law_919 920 rfl ?_
    refine jj_lcmpE X d_la_law_920 921 rfl ?_
    refine jj_if_eq X d_la_law_921 926 924 (by decide) rfl (fun _ => ?_) (fun c9 => absurd rfl c9)
    refine jj_goto X d_la_law_926 966 (by decide) ?_
    refine jj_lvs (lv' := [(0, .ref b), (1, .ref (q1 0)), (2, .ref (q2 0)), (3, .ref qL), (4, .int (nI (6 * j)))]) (by simp) ?_
    refine jj_widen (k' := (44 + (j + 1))) (n' := (4287 + 6 * (j + 1))) (by simp only [rmd]; omega) (by simp only [rmd]; omega) ?_
    refine jj_wse (ws' := mw cI cZ q2 (T0 B) ++ (tw cI cZ q1 A ++ [(qL, .inl (cL, 1, .inr (.inl (vp_updL f 0 (Int32.toInt64 (if okT nP (xs (6 * j + 1)) (xs (6 * j + 2)) (xs (6 * j + 3)) = true then o_stM (x_st A (xs (6 * j + 1)) (xs (6 * j + 2)) nS 1 0 0 (-1)) (xs (6 * j + 3)) else -1))))))])) (by simp) ?_
    exact h966 A (T0 B) (vp_updL f 0 (Int32.toInt64 (if okT nP (xs (6 * j + 1)) (xs (6 * j + 2)) (xs (6 * j + 3)) = true then o_stM (x_st A (xs (6 * j + 1)) (xs (6 * j + 2)) nS 1 0 0 (-1)) (xs (6 * j + 3)) else -1))) ⟨nP, nR, nX, nC, nS, nL, nT, E, hI⟩
theorem nI_gt6 {i L : Nat} (hi : i ≤ 4000) (hL : L ≤ 3072) : (nI L - 6 < nI i) ↔ L < i + 6 := by
  have e6 : (6 : Int32) = nI 6 := rfl
  rw [e6, Int32.lt_iff_toInt_lt, pk_sub_toInt (by omega) (by omega), nI_toInt (by omega)]
  omega
theorem nI_6 (j : Nat) : nI (6 * j) + Int32.ofInt 6 = nI (6 * (j + 1)) := by
  have := nI_add (6 * j) 6
  rw [show 6 * (j + 1) = 6 * j + 6 by omega]
  exact this
set_option maxRecDepth 100000 in
set_option maxHeartbeats 4000000 in
theorem law_step (htr : ∀ e, l.admits e → e.platform.stackTraces = false) (how : ow a0 AA s s.heap) (X : jc_X p s m args c b_la_law 7 gt_ "TransitRowsLaw" D cls_ [(cI, .int), (cZ, .boolean), (cL, .long)] nst_ AA) (hX : va_X b L xs s s.heap) (hbl : b < s.heap.size) (hbA : ¬ AA b) (hL : L ≤ 3072) (hj : 6 * j ≤ L) (hI0 : Iv A B)
    (hend : L < 6 * j + 6 → jc_J p l e room_1 s m args below meth c Q D cls_ AA 7 (44 + j) (4287 + 6 * j) 972 [(0, .ref b), (1, .ref (q1 0)), (2, .ref (q2 0)), (3, .ref qL), (4, .int (nI (6 * j)))] [] (mw cI cZ q2 B ++ (tw cI cZ q1 A ++ [(qL, .inl (cL, 1, .inr (.inl f)))])))
    (hnext : 6 * (j + 1) ≤ L → ∀ (A' B' : Rows) (f' : Nat → Int64), Iv A' B' → jc_J p l e room_1 s m args below meth c Q D cls_ AA 7 (44 + (j + 1)) (4287 + 6 * (j + 1)) 23 [(0, .ref b), (1, .ref (q1 0)), (2, .ref (q2 0)), (3, .ref qL), (4, .int (nI (6 * (j + 1))))] [] (mw cI cZ q2 B' ++ (tw cI cZ q1 A' ++ [(qL, .inl (cL, 1, .inr (.inl f')))]))) : jc_J p l e room_1 s m args below meth c Q D cls_ AA 7 (44 + j) (4287 + 6 * j) 23 [(0, .ref b), (1, .ref (q1 0)), (2, .ref (q2 0)), (3, .ref qL), (4, .int (nI (6 * j)))] [] (mw cI cZ q2 B ++ (tw cI cZ q1 A ++ [(qL, .inl (cL, 1, .inr (.inl f)))])) := by
  refine jj_iload X d_la_law_23 25 rfl 4 rfl ?_
  refine jj_aload_n X d_la_law_25 26 rfl 0 rfl ?_
  refine jj_slen X hX hbl hbA d_la_law_26 27 rfl ?_
  refine jj_bipush (v := 6) X d_la_law_27 29 rfl (by decide) ?_
  refine jj_isub X d_la_law_29 30 rfl ?_
  refine jj_icmp_gt X d_la_law_30 972 33 (by decide) rfl (fun c30 => hend ((nI_gt6 (by omega) hL).mp c30)) (fun c30 => ?_)
  have hj6 : 6 * j + 6 ≤ L := Nat.le_of_not_lt (fun z => c30 ((nI_gt6 (by omega) hL).mpr z))
  have h966 : ∀ (A' B' : Rows) (f' : Nat → Int64), Iv A' B' → jc_J p l e room_1 s m args below meth c Q D cls_ AA 7 (44 + (j + 1)) (4287 + 6 * (j + 1)) 966 [(0, .ref b), (1, .ref (q1 0)), (2, .ref (q2 0)), (3, .ref qL), (4, .int (nI (6 * j)))] [] (mw cI cZ q2 B' ++ (tw cI cZ q1 A' ++ [(qL, .inl (cL, 1, .inr (.inl f')))])) := fun A' B' f' hI' => by
    refine jj_iinc (v := nI (6 * (j + 1))) (lv' := [(0, .ref b), (1, .ref (q1 0)), (2, .ref (q2 0)), (3, .ref qL), (4, .int (nI (6 * (j + 1))))]) X d_la_law_966 969 rfl 4 rfl (nI_6 j) (by decide) rfl rfl ?_
    refine jj_goto X d_la_law_969 23 (by decide) ?_
    exact hnext (by omega) A' B' f' hI'
  refine jj_aload_n X d_la_law_33 34 rfl 0 rfl ?_
  refine jj_iload X d_la_law_34 36 rfl 4 rfl ?_
  refine jj_sld X hX hbl hbA d_la_law_36 37 rfl (vp_in_nI (by omega) (by omega)) ?_
  refine jj_bipush (v := 31) X d_la_law_37 39 rfl (by decide) ?_
  refine jj_iand X d_la_law_39 40 rfl ?_
  generalize xs (nI (6 * j)).toNatClampNeg &&& 31 = z
  by_cases e0 : z = 0
  · refine jj_tableIn X d_la_law_40 132 (by rw [e0]; decide) (by rw [e0]; decide) (by rw [e0]; rfl) (by decide) ?_
    exact law_0 X hX hbl hbA hL hj6 hI0 h966
  by_cases e1 : z = 1
  · refine jj_tableIn X d_la_law_40 145 (by rw [e1]; decide) (by rw [e1]; decide) (by rw [e1]; rfl) (by decide) ?_
    exact law_1 X hX hbl hbA hL hj6 hI0 h966
  by_cases e2 : z = 2
  · refine jj_tableIn X d_la_law_40 198 (by rw [e2]; decide) (by rw [e2]; decide) (by rw [e2]; rfl) (by decide) ?_
    exact law_2 X hX hbl hbA hL hj6 hI0 h966
  by_cases e3 : z = 3
  · refine jj_tableIn X d_la_law_40 271 (by rw [e3]; decide) (by rw [e3]; decide) (by rw [e3]; rfl) (by decide) ?_
    exact law_3 X hX hbl hbA hL hj6 hI0 h966
  by_cases e4 : z = 4
  · refine jj_tableIn X d_la_law_40 336 (by rw [e4]; decide) (by rw [e4]; decide) (by rw [e4]; rfl) (by decide) ?_
    exact law_4 X hX hbl hbA hL hj6 hI0 h966
  by_cases e5 : z = 5
  · refine jj_tableIn X d_la_law_40 361 (by rw [e5]; decide) (by rw [e5]; decide) (by rw [e5]; rfl) (by decide) ?_
    exact law_5 X hX hbl hbA hL hj6 hI0 h966
  by_cases e6 : z = 6
  · refine jj_tableIn X d_la_law_40 414 (by rw [e6]; decide) (by rw [e6]; decide) (by rw [e6]; rfl) (by decide) ?_
    exact law_6 X hX hbl hbA hL hj6 hI0 h966
  by_cases e7 : z = 7
  · refine jj_tableIn X d_la_law_40 467 (by rw [e7]; decide) (by rw [e7]; decide) (by rw [e7]; rfl) (by decide) ?_
    exact law_7 X hX hbl hbA hL hj6 hI0 h966
  by_cases e8 : z = 8
  · refine jj_tableIn X d_la_law_40 516 (by rw [e8]; decide) (by rw [e8]; decide) (by rw [e8]; rfl) (by decide) ?_
    exact law_8 X hX hbl hbA hL hj6 hI0 h966
  by_cases e9 : z = 9
  · refine jj_tableIn X d_la_law_40 541 (by rw [e9]; decide) (by rw [e9]; decide) (by rw [e9]; rfl) (by decide) ?_
    exact law_9 X hX hbl hbA hL hj6 hI0 h966
  by_cases e10 : z = 10
  · refine jj_tableIn X d_la_law_40 590 (by rw [e10]; decide) (by rw [e10]; decide) (by rw [e10]; rfl) (by decide) ?_
    exact law_10 X hX hbl hbA hL hj6 hI0 h966
  by_cases e11 : z = 11
  · refine jj_tableIn X d_la_law_40 627 (by rw [e11]; decide) (by rw [e11]; decide) (by rw [e11]; rfl) (by decide) ?_
    exact law_11 X hX hbl hbA hL hj6 hI0 h966
  by_cases e12 : z = 12
  · refine jj_tableIn X d_la_law_40 664 (by rw [e12]; decide) (by rw [e12]; decide) (by rw [e12]; rfl) (by decide) ?_
    exact law_12 X hX hbl hbA hL hj6 hI0 h966
  by_cases e13 : z = 13
  · refine jj_tableIn X d_la_law_40 701 (by rw [e13]; decide) (by rw [e13]; decide) (by rw [e13]; rfl) (by decide) ?_
    exact law_13 X hX hbl hbA hL hj6 hI0 h966
  by_cases e14 : z = 14
  · refine jj_tableIn X d_la_law_40 750 (by rw [e14]; decide) (by rw [e14]; decide) (by rw [e14]; rfl) (by decide) ?_
    exact law_14 X hX hbl hbA hL hj6 hI0 h966
  by_cases e15 : z = 15
  · refine jj_tableIn X d_la_law_40 775 (by rw [e15]; decide) (by rw [e15]; decide) (by rw [e15]; rfl) (by decide) ?_
    exact law_15 X hX hbl hbA hL hj6 hI0 h966
  by_cases e16 : z = 16
  · refine jj_tableIn X d_la_law_40 812 (by rw [e16]; decide) (by rw [e16]; decide) (by rw [e16]; rfl) (by decide) ?_
    exact law_16 X hX hbl hbA hL hj6 hI0 h966
  by_cases e17 : z = 17
  · refine jj_tableIn X d_la_law_40 849 (by rw [e17]; decide) (by rw [e17]; decide) (by rw [e17]; rfl) (by decide) ?_
    exact law_17 htr how X hX hbl hbA hL hj6 hI0 h966
  by_cases e18 : z = 18
  · refine jj_tableIn X d_la_law_40 929 (by rw [e18]; decide) (by rw [e18]; decide) (by rw [e18]; rfl) (by decide) ?_
    exact law_18 X hX hbl hbA hL hj6 hI0 h966
  refine jj_tableOut X d_la_law_40 966 (sw_out 0 18 (by decide) (by decide) (fun y h1 h2 => by rcases (show y = 0 ∨ y = 1 ∨ y = 2 ∨ y = 3 ∨ y = 4 ∨ y = 5 ∨ y = 6 ∨ y = 7 ∨ y = 8 ∨ y = 9 ∨ y = 10 ∨ y = 11 ∨ y = 12 ∨ y = 13 ∨ y = 14 ∨ y = 15 ∨ y = 16 ∨ y = 17 ∨ y = 18 by omega) with rfl | rfl | rfl | rfl | rfl | rfl | rfl | rfl | rfl | rfl | rfl | rfl | rfl | rfl | rfl | rfl | rfl | rfl | rfl <;> assumption)) (by decide) ?_
  refine jj_widen (k' := (44 + (j + 1))) (n' := (4287 + 6 * (j + 1))) (by omega) (by omega) ?_
  exact h966 A B f hI0
end LAW
