set_option maxRecDepth 100000 in
set_option maxHeartbeats 4000000 in
theorem c_tr_load (l : Launch) (D : va_G) (cI cZ : ClassId) (q : Nat → Nat) (A : Rows) (nR : Nat) (nX : Nat) (nS : Nat) (nL : Nat) (nT : Nat) (e0 rm : Nat) (x d : Int32) (hnR : A 0 1 = nI nR) (hlR : nR ≤ 40) (hnX : A 0 2 = nI nX) (hlX : nX ≤ 60) (hnS : A 0 4 = nI nS) (hlS : nS ≤ 150) (hnL : A 0 5 = nI nL) (hlL : nL ≤ 60) (hnT : A 0 6 = nI nT) (hlT : nT ≤ 100) (hrg : rgC A) (he0 : A 21 nL = nI e0) (hcap : e0 + (quD A nS x d).1 ≤ 150) (hrm : A 6 x.toNatClampNeg = nI rm) (hrm9 : rm < 100) : mt_I l D cls_ [(cI, .int), (cZ, .boolean)] nst_ y_tr_load (Cond.code y_tr_load b_tr_load 5 (some .int) :: gt_) (rmd 3) [.ref (q 0), .int x, .int d] (tw cI cZ q A) (fun r u => r = (s_load A nR nX nS nL nT e0 rm x d).1 ∧ u = tw cI cZ q (s_load A nR nX nS nL nT e0 rm x d).2) := by
  refine mt_I_of (by decide) (Nat.le_of_ble_eq_true rfl) ?_
  intro p e s m below meth c AA X hr hlk
  refine jj_lve (lv' := [(0, .ref (q 0)), (1, .int x), (2, .int d)]) rfl ?_
  have hqn := x_qu_n (A := A) (P := pDue A x d) nS 1 0 (A 25)
  have hqd : (quD A nS x d).1 ≤ 150 := by show (x_qu A (pDue A x d) nS 1 0 (A 25)).1 ≤ 150; omega
  refine jj_aload_n X d_tr_load_0 1 rfl 0 rfl ?_
  refine jj_get (v := .ref (q 2)) X d_tr_load_1 4 rfl i_tr 1 f_tr_19 0 rfl rfl (by decide) rfl rfl ?_
  refine jj_iload_n X d_tr_load_4 5 rfl 1 rfl ?_
  refine jj_callV0 (st := []) X d_tr_load_5 8 rfl (c_ro_has l D cI cZ q A x) g_tr_74 ⟨rfl, w_ro_has⟩ ⟨(Nat.le_of_ble_eq_true rfl), (Nat.le_of_ble_eq_true rfl)⟩ rfl 2 rfl rfl rfl (Nat.le_of_ble_eq_true rfl) ⟨rfl, rfl⟩ ⟨Nat.zero_le _, Nat.zero_le _⟩ (fun r u hu => ?_)
  obtain ⟨rfl, rfl⟩ := hu
  rw [hnR]
  refine jj_if_eq X d_tr_load_8 30 11 (by decide) rfl (fun c8 => ?_) (fun c8 => ?_)
  · have c8 := b2_f c8
    refine jj_iconst (v := 0) X d_tr_load_30 31 rfl (by decide) ?_
    exact jj_iret X hr hlk d_tr_load_31 (⟨by simp [s_load, okL, *], by simp [s_load, okL, *]⟩)
  · have c8 := b2_t c8
    have hx : vp_in x 40 := hN_in c8 (by rw [nI_toInt (by omega)]; omega)
    refine jj_iload_n X d_tr_load_11 12 rfl 2 rfl ?_
    refine jj_callS0 (st := []) X d_tr_load_12 15 rfl (c_tr_isDay l D cI cZ q A d) g_tr_75 ⟨rfl, w_tr_isDay⟩ ⟨(Nat.le_of_ble_eq_true rfl), (Nat.le_of_ble_eq_true rfl)⟩ rfl rfl (Nat.le_of_ble_eq_true rfl) ⟨rfl, rfl⟩ ⟨Nat.zero_le _, Nat.zero_le _⟩ (fun r u hu => ?_)
    obtain ⟨rfl, rfl⟩ := hu
    refine jj_if_eq X d_tr_load_15 30 18 (by decide) rfl (fun c15 => ?_) (fun c15 => ?_)
    · have c15 := b2_f c15
      refine jj_iconst (v := 0) X d_tr_load_30 31 rfl (by decide) ?_
      exact jj_iret X hr hlk d_tr_load_31 (⟨by simp [s_load, okL, *], by simp [s_load, okL, *]⟩)
    · have c15 := b2_t c15
      refine jj_aload_n X d_tr_load_18 19 rfl 0 rfl ?_
      refine jj_get (v := .ref (q 2)) X d_tr_load_19 22 rfl i_tr 1 f_tr_19 0 rfl rfl (by decide) rfl rfl ?_
      refine jj_iload_n X d_tr_load_22 23 rfl 1 rfl ?_
      refine jj_iload_n X d_tr_load_23 24 rfl 2 rfl ?_
      refine jj_callV0 (st := []) X d_tr_load_24 27 rfl (c_ro_runsOn l D cI cZ q A nX x d hnX hlX hx) g_tr_131 ⟨rfl, w_ro_runsOn⟩ ⟨(Nat.le_of_ble_eq_true rfl), (Nat.le_of_ble_eq_true rfl)⟩ rfl 2 rfl rfl rfl (Nat.le_of_ble_eq_true rfl) ⟨rfl, rfl⟩ ⟨Nat.zero_le _, Nat.zero_le _⟩ (fun r u hu => ?_)
      obtain ⟨rfl, rfl⟩ := hu
      refine jj_if_ne X d_tr_load_27 32 30 (by decide) rfl (fun c27 => ?_) (fun c27 => ?_)
      · have c27 := b2_t c27
        refine jj_aload_n X d_tr_load_32 33 rfl 0 rfl ?_
        refine jj_get (v := .ref (q 2)) X d_tr_load_33 36 rfl i_tr 1 f_tr_19 0 rfl rfl (by decide) rfl rfl ?_
        refine jj_get (v := .ref (q 14)) X d_tr_load_36 39 rfl i_ro 5 f_tr_134 2 rfl rfl (by decide) rfl rfl ?_
        refine jj_iload_n X d_tr_load_39 40 rfl 1 rfl ?_
        refine jj_iald (v := A 7 x.toNatClampNeg) X d_tr_load_40 41 rfl 14 0 rfl rfl (by assumption) (rfl) ?_
        refine jj_iload_n X d_tr_load_41 42 rfl 2 rfl ?_
        refine jj_icmp_ge X d_tr_load_42 57 45 (by decide) rfl (fun c42 => ?_) (fun c42 => ?_)
        · refine jj_iconst (v := 0) X d_tr_load_57 58 rfl (by decide) ?_
          exact jj_iret X hr hlk d_tr_load_58 (⟨by simp [s_load, okL, *], by simp [s_load, okL, *]⟩)
        · refine jj_aload_n X d_tr_load_45 46 rfl 0 rfl ?_
          refine jj_get (v := .ref (q 6)) X d_tr_load_46 49 rfl i_tr 4 f_tr_40 0 rfl rfl (by decide) rfl rfl ?_
          refine jj_get (v := .int (nI nL)) X d_tr_load_49 52 rfl i_ld 2 f_tr_137 6 rfl rfl (by decide) rfl (by rw [← hnL]; rfl) ?_
          refine jj_bipush (v := 60) X d_tr_load_52 54 rfl (by decide) ?_
          refine jj_icmp_ne X d_tr_load_54 59 57 (by decide) rfl (fun c54 => ?_) (fun c54 => ?_)
          · have hL : nL ≠ 60 := nI_neD c54
            refine jj_aload_n X d_tr_load_59 60 rfl 0 rfl ?_
            refine jj_get (v := .ref (q 2)) X d_tr_load_60 63 rfl i_tr 1 f_tr_19 0 rfl rfl (by decide) rfl rfl ?_
            refine jj_get (v := .ref (q 14)) X d_tr_load_63 66 rfl i_ro 5 f_tr_134 2 rfl rfl (by decide) rfl rfl ?_
            refine jj_iload_n X d_tr_load_66 67 rfl 1 rfl ?_
            refine jj_iload_n X d_tr_load_67 68 rfl 2 rfl ?_
            refine jj_iast (ws' := tw cI cZ q ((ua A 7 (upd (A 7) x.toNatClampNeg d)))) X d_tr_load_68 69 rfl 14 0 rfl rfl (by assumption) rfl ?_
            refine jj_aload_n X d_tr_load_69 70 rfl 0 rfl ?_
            refine jj_get (v := .ref (q 6)) X d_tr_load_70 73 rfl i_tr 4 f_tr_40 0 rfl rfl (by decide) rfl rfl ?_
            refine jj_callV0 (st := []) X d_tr_load_73 76 rfl (c_ld_begin l D cI cZ q ((ua A 7 (upd (A 7) x.toNatClampNeg d))) nL hnL (by omega)) g_tr_138 ⟨rfl, w_ld_begin⟩ ⟨(Nat.le_of_ble_eq_true rfl), (Nat.le_of_ble_eq_true rfl)⟩ rfl 6 rfl rfl rfl (Nat.le_of_ble_eq_true rfl) ⟨rfl, rfl⟩ ⟨Nat.zero_le _, Nat.zero_le _⟩ (fun r u hu => ?_)
            obtain ⟨rfl, rfl⟩ := hu
            refine jj_wse (ws' := tw cI cZ q ((ua (ua (ua A 0 (uz (A 0) 5 (nI (nL + 1)))) 7 (upd (A 7) x.toNatClampNeg d)) 21 (upd (A 21) (nL + 1) (A 21 nL))))) (rfl) ?_
            refine jj_istore_n (lv' := [(0, .ref (q 0)), (1, .int x), (2, .int d), (3, .int (nI (nL + 1)))]) X d_tr_load_76 77 rfl (by decide) rfl rfl ?_
            refine jj_aload_n X d_tr_load_77 78 rfl 0 rfl ?_
            refine jj_iload_n X d_tr_load_78 79 rfl 1 rfl ?_
            refine jj_iload_n X d_tr_load_79 80 rfl 2 rfl ?_
            refine jj_callVv0 (st := []) X d_tr_load_80 83 rfl (c_tr_queueDue l D cI cZ q ((ua (ua (ua A 0 (uz (A 0) 5 (nI (nL + 1)))) 7 (upd (A 7) x.toNatClampNeg d)) 21 (upd (A 21) (nL + 1) (A 21 nL)))) nS x d hnS hlS hrg) g_tr_141 ⟨rfl, w_tr_queueDue⟩ ⟨(Nat.le_of_ble_eq_true rfl), (Nat.le_of_ble_eq_true rfl)⟩ rfl 0 rfl rfl rfl (Nat.le_of_ble_eq_true rfl) ⟨rfl, rfl⟩ ⟨Nat.zero_le _, Nat.zero_le _⟩ (fun u hu => ?_)
            obtain rfl := hu
            refine jj_wse (ws' := tw cI cZ q ((ua (ua (ua (ua A 0 (uz (uz (A 0) 5 (nI (nL + 1))) 7 (nI (quD A nS x d).1))) 7 (upd (A 7) x.toNatClampNeg d)) 21 (upd (A 21) (nL + 1) (A 21 nL))) 25 ((quD A nS x d).2)))) (congrArg (fun (z : Nat × (Nat → Int32)) => tw cI cZ q (ua (ua (ua (ua A 0 (uz (uz (A 0) 5 (nI (nL + 1))) 7 (nI z.1))) 7 (upd (A 7) x.toNatClampNeg d)) 21 (upd (A 21) (nL + 1) (A 21 nL))) 25 z.2)) (x_qu_c (A := (ua (ua (ua A 0 (uz (A 0) 5 (nI (nL + 1)))) 7 (upd (A 7) x.toNatClampNeg d)) 21 (upd (A 21) (nL + 1) (A 21 nL)))) (B := A) (fun _ _ => rfl) (pDue A x d) nS 1 0 (A 25))) ?_
            refine jj_aload_n X d_tr_load_83 84 rfl 0 rfl ?_
            refine jj_get (v := .ref (q 1)) X d_tr_load_84 87 rfl i_tr 0 f_tr_10 0 rfl rfl (by decide) rfl rfl ?_
            refine jj_get (v := .ref (q 8)) X d_tr_load_87 90 rfl i_pl 0 f_tr_67 1 rfl rfl (by decide) rfl rfl ?_
            refine jj_aload_n X d_tr_load_90 91 rfl 0 rfl ?_
            refine jj_get (v := .ref (q 2)) X d_tr_load_91 94 rfl i_tr 1 f_tr_19 0 rfl rfl (by decide) rfl rfl ?_
            refine jj_get (v := .ref (q 10)) X d_tr_load_94 97 rfl i_ro 1 f_tr_144 2 rfl rfl (by decide) rfl rfl ?_
            refine jj_iload_n X d_tr_load_97 98 rfl 1 rfl ?_
            refine jj_iald (v := A 3 x.toNatClampNeg) X d_tr_load_98 99 rfl 10 0 rfl rfl (by assumption) (rfl) ?_
            refine jj_zald (v := A 1 (A 3 x.toNatClampNeg).toNatClampNeg) X d_tr_load_99 100 rfl 8 1 rfl rfl (hrg.2.2.2.2.1 _) (rfl) ?_
            refine jj_if_eq X d_tr_load_100 138 103 (by decide) rfl (fun c100 => ?_) (fun c100 => ?_)
            · refine jj_aload_n X d_tr_load_138 139 rfl 0 rfl ?_
              refine jj_iconst (v := 0) X d_tr_load_139 140 rfl (by decide) ?_
              refine jj_iconst (v := 1) X d_tr_load_140 141 rfl (by decide) ?_
              refine jj_callVv0 (st := []) X d_tr_load_141 144 rfl (c_tr_tellQueue l D cI cZ q ((ua (ua (ua (ua A 0 (uz (uz (A 0) 5 (nI (nL + 1))) 7 (nI (quD A nS x d).1))) 7 (upd (A 7) x.toNatClampNeg d)) 21 (upd (A 21) (nL + 1) (A 21 nL))) 25 ((quD A nS x d).2))) (quD A nS x d).1 0 nT 1 rfl (by omega) (by omega) hnT hlT) g_tr_158 ⟨rfl, w_tr_tellQueue⟩ ⟨(Nat.le_of_ble_eq_true rfl), (Nat.le_of_ble_eq_true rfl)⟩ rfl 0 rfl rfl rfl (Nat.le_of_ble_eq_true rfl) ⟨rfl, rfl⟩ ⟨Nat.zero_le _, Nat.zero_le _⟩ (fun u hu => ?_)
              obtain rfl := hu
              refine jj_wse (ws' := tw cI cZ q ((ua (ua (ua (ua (ua (ua A 0 (uz (uz (uz (A 0) 5 (nI (nL + 1))) 7 (nI (quD A nS x d).1)) 6 (nI (x_te 1 (quD A nS x d).2 ((quD A nS x d).1 - 0) 0 nT (A 23) (A 24)).1))) 7 (upd (A 7) x.toNatClampNeg d)) 21 (upd (A 21) (nL + 1) (A 21 nL))) 23 ((x_te 1 (quD A nS x d).2 ((quD A nS x d).1 - 0) 0 nT (A 23) (A 24)).2.1)) 24 ((x_te 1 (quD A nS x d).2 ((quD A nS x d).1 - 0) 0 nT (A 23) (A 24)).2.2)) 25 ((quD A nS x d).2)))) (rfl) ?_
              refine jj_iload_n X d_tr_load_144 145 rfl 3 rfl ?_
              exact jj_iret X hr hlk d_tr_load_145 (⟨by simp [s_load, okL, *], by simp [s_load, okL, *]⟩)
            · refine jj_aload_n X d_tr_load_103 104 rfl 0 rfl ?_
              refine jj_get (v := .int (nI (quD A nS x d).1)) X d_tr_load_104 107 rfl i_tr 7 f_tr_55 0 rfl rfl (by decide) rfl rfl ?_
              refine jj_aload_n X d_tr_load_107 108 rfl 0 rfl ?_
              refine jj_get (v := .ref (q 2)) X d_tr_load_108 111 rfl i_tr 1 f_tr_19 0 rfl rfl (by decide) rfl rfl ?_
              refine jj_get (v := .ref (q 13)) X d_tr_load_111 114 rfl i_ro 4 f_tr_147 2 rfl rfl (by decide) rfl rfl ?_
              refine jj_iload_n X d_tr_load_114 115 rfl 1 rfl ?_
              refine jj_iald (v := nI rm) X d_tr_load_115 116 rfl 13 0 rfl rfl (by assumption) (hrm) ?_
              have hrg2 : rgC ((ua (ua (ua (ua A 0 (uz (uz (A 0) 5 (nI (nL + 1))) 7 (nI (quD A nS x d).1))) 7 (upd (A 7) x.toNatClampNeg d)) 21 (upd (A 21) (nL + 1) (A 21 nL))) 25 ((quD A nS x d).2))) := ⟨hrg.1, hrg.2.1, hrg.2.2.1, x_qu_in nS 1 0 (A 25) (by omega) hrg.2.2.2.1, hrg.2.2.2.2⟩
              have hmin : min (quD A nS x d).1 rm ≤ (quD A nS x d).1 := Nat.min_le_left _ _
              refine jj_mmin X d_tr_load_116 119 rfl l_tr_150 a_math_min s_math k_math_min (Nat.le_of_ble_eq_true rfl) (Nat.le_of_ble_eq_true rfl) (Nat.le_of_ble_eq_true rfl) (Nat.le_of_ble_eq_true rfl) ?_
              refine jj_topv (y := nI (min (quD A nS x d).1 rm)) (mn_ (by omega) (by omega)) ?_
              refine jj_istore (lv' := [(0, .ref (q 0)), (1, .int x), (2, .int d), (3, .int (nI (nL + 1))), (4, .int (nI (min (quD A nS x d).1 rm)))]) X d_tr_load_119 121 rfl (by decide) rfl rfl ?_
              refine jj_aload_n X d_tr_load_121 122 rfl 0 rfl ?_
              refine jj_iload X d_tr_load_122 124 rfl 4 rfl ?_
              refine jj_iload_n X d_tr_load_124 125 rfl 2 rfl ?_
              refine jj_callVv0 (st := []) X d_tr_load_125 128 rfl (c_tr_takeFromQueue l D cI cZ q ((ua (ua (ua (ua A 0 (uz (uz (A 0) 5 (nI (nL + 1))) 7 (nI (quD A nS x d).1))) 7 (upd (A 7) x.toNatClampNeg d)) 21 (upd (A 21) (nL + 1) (A 21 nL))) 25 ((quD A nS x d).2))) (nL + 1) (min (quD A nS x d).1 rm) e0 d rfl (by omega) ((if_pos rfl).trans he0) (by omega) (by omega) hrg2) g_tr_155 ⟨rfl, w_tr_takeFromQueue⟩ ⟨(Nat.le_of_ble_eq_true rfl), (Nat.le_of_ble_eq_true rfl)⟩ rfl 0 rfl rfl rfl (Nat.le_of_ble_eq_true rfl) ⟨rfl, rfl⟩ ⟨Nat.zero_le _, Nat.zero_le _⟩ (fun u hu => ?_)
              obtain rfl := hu
              refine jj_wse (ws' := tw cI cZ q ((ua (ua (ua (ua (ua (ua (ua A 0 (uz (uz (A 0) 5 (nI (nL + 1))) 7 (nI (quD A nS x d).1))) 7 (upd (A 7) x.toNatClampNeg d)) 17 ((x_ta d (quD A nS x d).2 (min (quD A nS x d).1 rm) 0 e0 (A 17) (A 19) (A 22)).2.1)) 19 ((x_ta d (quD A nS x d).2 (min (quD A nS x d).1 rm) 0 e0 (A 17) (A 19) (A 22)).2.2.1)) 21 (upd (A 21) (nL + 1) (nI (x_ta d (quD A nS x d).2 (min (quD A nS x d).1 rm) 0 e0 (A 17) (A 19) (A 22)).1))) 22 ((x_ta d (quD A nS x d).2 (min (quD A nS x d).1 rm) 0 e0 (A 17) (A 19) (A 22)).2.2.2)) 25 ((quD A nS x d).2)))) (congrArg (fun z => tw cI cZ q (ua (ua (ua (ua (ua (ua (ua A 0 (uz (uz (A 0) 5 (nI (nL + 1))) 7 (nI (quD A nS x d).1))) 7 (upd (A 7) x.toNatClampNeg d)) 17 ((x_ta d (quD A nS x d).2 (min (quD A nS x d).1 rm) 0 e0 (A 17) (A 19) (A 22)).2.1)) 19 ((x_ta d (quD A nS x d).2 (min (quD A nS x d).1 rm) 0 e0 (A 17) (A 19) (A 22)).2.2.1)) 21 (z)) 22 ((x_ta d (quD A nS x d).2 (min (quD A nS x d).1 rm) 0 e0 (A 17) (A 19) (A 22)).2.2.2)) 25 ((quD A nS x d).2))) (uu_ (A 21) (nL + 1) (A 21 nL) (nI (x_ta d (quD A nS x d).2 (min (quD A nS x d).1 rm) 0 e0 (A 17) (A 19) (A 22)).1))) ?_
              refine jj_aload_n X d_tr_load_128 129 rfl 0 rfl ?_
              refine jj_iload X d_tr_load_129 131 rfl 4 rfl ?_
              refine jj_iconst (v := 2) X d_tr_load_131 132 rfl (by decide) ?_
              refine jj_callVv0 (st := []) X d_tr_load_132 135 rfl (c_tr_tellQueue l D cI cZ q ((ua (ua (ua (ua (ua (ua (ua A 0 (uz (uz (A 0) 5 (nI (nL + 1))) 7 (nI (quD A nS x d).1))) 7 (upd (A 7) x.toNatClampNeg d)) 17 ((x_ta d (quD A nS x d).2 (min (quD A nS x d).1 rm) 0 e0 (A 17) (A 19) (A 22)).2.1)) 19 ((x_ta d (quD A nS x d).2 (min (quD A nS x d).1 rm) 0 e0 (A 17) (A 19) (A 22)).2.2.1)) 21 (upd (A 21) (nL + 1) (nI (x_ta d (quD A nS x d).2 (min (quD A nS x d).1 rm) 0 e0 (A 17) (A 19) (A 22)).1))) 22 ((x_ta d (quD A nS x d).2 (min (quD A nS x d).1 rm) 0 e0 (A 17) (A 19) (A 22)).2.2.2)) 25 ((quD A nS x d).2))) (quD A nS x d).1 (min (quD A nS x d).1 rm) nT 2 rfl (by omega) (by omega) hnT hlT) g_tr_158 ⟨rfl, w_tr_tellQueue⟩ ⟨(Nat.le_of_ble_eq_true rfl), (Nat.le_of_ble_eq_true rfl)⟩ rfl 0 rfl rfl rfl (Nat.le_of_ble_eq_true rfl) ⟨rfl, rfl⟩ ⟨Nat.zero_le _, Nat.zero_le _⟩ (fun u hu => ?_)
              obtain rfl := hu
              refine jj_wse (ws' := tw cI cZ q ((ua (ua (ua (ua (ua (ua (ua (ua (ua A 0 (uz (uz (uz (A 0) 5 (nI (nL + 1))) 7 (nI (quD A nS x d).1)) 6 (nI (x_te 2 (quD A nS x d).2 ((quD A nS x d).1 - min (quD A nS x d).1 rm) (min (quD A nS x d).1 rm) nT (A 23) (A 24)).1))) 7 (upd (A 7) x.toNatClampNeg d)) 17 ((x_ta d (quD A nS x d).2 (min (quD A nS x d).1 rm) 0 e0 (A 17) (A 19) (A 22)).2.1)) 19 ((x_ta d (quD A nS x d).2 (min (quD A nS x d).1 rm) 0 e0 (A 17) (A 19) (A 22)).2.2.1)) 21 (upd (A 21) (nL + 1) (nI (x_ta d (quD A nS x d).2 (min (quD A nS x d).1 rm) 0 e0 (A 17) (A 19) (A 22)).1))) 22 ((x_ta d (quD A nS x d).2 (min (quD A nS x d).1 rm) 0 e0 (A 17) (A 19) (A 22)).2.2.2)) 23 ((x_te 2 (quD A nS x d).2 ((quD A nS x d).1 - min (quD A nS x d).1 rm) (min (quD A nS x d).1 rm) nT (A 23) (A 24)).2.1)) 24 ((x_te 2 (quD A nS x d).2 ((quD A nS x d).1 - min (quD A nS x d).1 rm) (min (quD A nS x d).1 rm) nT (A 23) (A 24)).2.2)) 25 ((quD A nS x d).2)))) (rfl) ?_
              refine jj_goto X d_tr_load_135 144 (by decide) ?_
              refine jj_iload_n X d_tr_load_144 145 rfl 3 rfl ?_
              exact jj_iret X hr hlk d_tr_load_145 (⟨by simp [s_load, okL, *], by simp [s_load, okL, *]⟩)
          · have hL : nL = 60 := nI_eqD c54 (by omega) (by omega)
            refine jj_iconst (v := 0) X d_tr_load_57 58 rfl (by decide) ?_
            exact jj_iret X hr hlk d_tr_load_58 (⟨by simp [s_load, okL, *], by simp [s_load, okL, *]⟩)
      · have c27 := b2_f c27
        refine jj_iconst (v := 0) X d_tr_load_30 31 rfl (by decide) ?_
        exact jj_iret X hr hlk d_tr_load_31 (⟨by simp [s_load, okL, *], by simp [s_load, okL, *]⟩)
