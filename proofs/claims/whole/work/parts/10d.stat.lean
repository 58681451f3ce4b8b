/-- the end of a method that throws -/
def tQ (below : List Frame) (B : State → State → Prop) (s : State) (mc ms : Nat) (free : Nat → Prop) : State → Prop := fun t => ∃ o, t.status = .running ∧ Ended t below o ∧ (∃ (q : Nat) (ce : Cell), o = .threw q ∧ s.heap.size ≤ q ∧ t.heap[q]? = some ce ∧ ce.vm.isStatics = false ∧ s.vm.findClass owX = some ce.cls ∧ B s t) ∧ ∃ L, tE s t L mc ms ∧ ∀ x ∈ L, free x.base
def rmS : Room := { frames := 7, cells := 1, slots := 6, locals := 120 }
theorem g_avg : GoodIn gt_ (Cond.code y_tr_average b_tr_average 2 (some .int) :: gt_) := fun w hw => g_tr_196 w (by unfold wsS; exact List.mem_append_right _ hw)
section TH
variable {p : Program} {l : Launch} {e : Env} {R : Room} {s : State} {m : MethodId} {args : Array Value} {below : List Frame} {meth : Method} {c : Code} {Q : State → Prop} {cc : ByteArray} {nL : Nat} {own : String} {D : va_G} {cl : List vw_C} {tys : List (ClassId × FieldType)} {nst : List Cond} {A : Nat → Prop} {k n pc : Nat} {lv : List (Nat × Value)} {st : List Value} {ws : va_W}
set_option maxHeartbeats 4000000 in
theorem jj_avT (htr : ∀ e, l.admits e → e.platform.stackTraces = false) {a0 : Nat} {x : Int32} (X : jc_X p s m args c cc nL gt_ "TransitRows" D cl tys nst A) (how : ow a0 A s s.heap) (hex : c.exceptionTable.isEmpty = true) (hlk : meth.locks = false) (d : decode cc pc = .ok (.invokestatic 196, 3)) (hRf : 7 ≤ R.frames) (hRl : 111 ≤ R.locals) (hk : k + 1 ≤ R.cells) (hn : n + 6 ≤ R.slots) :
    jc_J p l e R s m args below meth c (tQ below (fun st t => jc_B D cl tys A ws t ∧ va_F A st t) s (k + 1) (n + 6) A) D cl A nL k n pc lv [.int 0, .int x] ws := by
  intro H locs ls hP hD hS hl T hT XT
  have hcode := X.1.2.2.2.2 _ k_tr_average
  obtain ⟨mk, hnamed⟩ := Cond.code_named hcode
  obtain ⟨methM, cM, hmethM, -, -, -, -, -, -, hsigM⟩ := Cond.code_spec hnamed hcode
  have hstatic : methM.isStatic = true := Cond.static_spec hnamed hmethM (X.1.2.2.2.2 _ a_tr_average)
  obtain ⟨kP, hkP, -⟩ := className_of_methodNamed hnamed
  have hinitP : kP.init = .initialized := Cond.initialized_spec (findClass_of_methodNamed hnamed) hkP (X.1.2.2.2.2 _ s_tr)
  have hdg : decode c.code pc = .ok (.invokestatic 196, 3) := by rw [X.1.2.1]; exact d
  obtain ⟨vm₁, X₁, hstep₁⟩ := XT.invokestatic X.1.1 X.1.2.2.2.1 (X.1.2.2.2.2 _ l_tr_196) hnamed hmethM hstatic hkP hinitP ⟨w_tr_average.1, w_tr_average.2.1⟩ (g := F0 m pc ls [.int 0, .int x]) rfl (argsL := [.int x, .int 0]) (rest := []) (by
    have := w_tr_average.2.2
    rw [hsigM] at this
    exact (Option.some.inj this).symm) rfl hdg
  have hW₁ := X₁.warmed
  have hpay := pay_in X.1.2.2.2.2 g_avg
  have hroom : 2 * (F0 m pc ls []).monitorRoom + ((F0 m pc ls []).stack.map fun v => v.category).sum ≤ 8 := Nat.le_of_ble_eq_true rfl
  obtain ⟨v, t, L, XB, h8, h1, ⟨ce, h2, h3, h4⟩, h6, h5, st0⟩ := tw_run X₁ (th_avg l htr D a0 x) (X₁.named hnamed) (fun w hw => hpay w hw _ _ hW₁) (hpay _ List.mem_cons_self _ _ hW₁) (word_at hW₁ (Or.inl rfl) (X.1.2.2.2.2 _ s_tr)) (g := F0 m pc ls []) rfl (by rw [X.1.2.2.1]; exact hl.1) hdg hRf (by
      show _ + (2 + 11) + 90 ≤ _
      omega) hk hn (ow_same (s := T.setVm vm₁) rfl (ow_narrow (ow_kept (ow_warm (U := T.setVm vm₁) hW₁ how) (fun a h1 h2 => by
        show T.heap[a]? = s.heap[a]?
        rw [hT]
        exact hS.2.1 a h1 h2)) (fun _ _ z => z.elim)))
  have st1 := hstep₁ _ fun acts => by rw [doInvoke_state]; exact st0
  obtain ⟨U, hU⟩ : ∃ U, U = tU (T.setVm vm₁) t := ⟨_, rfl⟩
  rw [← hU] at XB st1
  have hUh : t.heap = U.heap := by rw [hU]; rfl
  have h5 : ∀ q : Nat, q < (T.setVm vm₁).heap.size → t.heap[q]? = (T.setVm vm₁).heap[q]? := h5
  rw [hUh] at h2 h5 h6
  obtain ⟨st2, hrun, hend, hWu, hsame⟩ := XB.leaveThrown v (g := F0 m pc ls []) rfl rfl rfl (fun y hy => by
    have : c.exceptionTable.toList = [] := by simpa using hex
    rw [this] at hy
    cases hy) hlk
  have hTh : (T.setVm vm₁).heap = H := hT
  rw [hTh] at h1 h5 h6
  have hkeep : ∀ q : Nat, q < H.size → U.heap[q]? = H[q]? := h5
  have hheap : (U.setFrames (.throwing v :: below)).heap = U.heap := rfl
  refine ⟨U.setFrames (.throwing v :: below), st1.trans st2, .threw v, hrun, hend, ⟨v, ce, rfl, Nat.le_trans hS.1 h1, h2, h3, ?_, ⟨?_, ?_, hD⟩, ?_, ?_⟩, locs ++ L, ⟨hWu, hsame⟩, fun y hy => ?_⟩
  · have e1 : vm₁.findClass owX = s.vm.findClass owX := hW₁.alike.findClass _ _
    rw [← e1]
    exact h4
  · rw [hheap]
    exact hP.kept (fun i q h => hkeep _ (hP i q h).lt)
  · exact va_K.moved hWu.alike X.2.1
  · rw [hheap]
    exact Nat.le_trans hS.1 h6
  · intro q g1 g2
    rw [hheap, hkeep q (Nat.lt_of_lt_of_le g1 hS.1)]
    exact hS.2.1 q g1 g2
  · rcases List.mem_append.mp hy with z | z
    · exact hS.2.2 y z
    · exact (h8 y z).elim
theorem mt_T_of {y : MethodName} {maxL : Nat} {ty : FieldType} {rm : Room} {av : List Value} {w : va_W} {a0 : Nat} (hy : plainName y.cls = true) (hlen : (lg_sl av).length ≤ maxL)
    (body : ∀ (p : Program) (e : Env) (s : State) (m : MethodId) (below : List Frame) (meth : Method) (c : Code) (A : Nat → Prop), jc_X p s m av.toArray c cc maxL gt_ y.cls D cl tys nst A → meth.locks = false → c.exceptionTable.isEmpty = true → ow a0 A s s.heap →
      jc_J p l e (headSpec (Cond.code y cc maxL (some ty) :: gt_) rm).room s m av.toArray below meth c (tQ below (fun st t => jc_B D cl tys A w t ∧ va_F A st t) s rm.cells rm.slots A) D cl A maxL 0 0 0 (lv_args 0 av) [] w) (sz : Nat) : tq l y (Cond.code y cc maxL (some ty) :: gt_) rm av (fun U => jc_P D cl tys nst sz w U ∧ ow a0 (va_A w sz) U U.heap) (fun st t => jc_B D cl tys (va_A w sz) w t ∧ va_F (va_A w sz) st t) (va_A w sz) := by
  refine MetFree.of_bodyS (code := cc) (maxLocals := maxL) (ret := some ty) hy ?_ ?_
  · intro args s m h hn
    obtain ⟨meth, c, h1, h2, h3, h4, h5, h6, -, -⟩ := Cond.code_spec hn (atoms_spec (ws := Cond.code y cc maxL (some ty) :: gt_) h _ List.mem_cons_self)
    exact ⟨meth, c, h1, h2, h3, h4, h5, h6⟩
  · intro p e s m args below meth c s₁ B hml hP0 _
    obtain ⟨rfl, ⟨hsz, hP, hK, hD0, hN0⟩, how⟩ := hP0
    have hts := atoms_spec (ws := Cond.code y cc maxL (some ty) :: gt_) B.pre
    have hown : s.vm.findClass y.cls = some m.cls := findClass_of_methodNamed B.named
    have hh0 : s₁.heap = s.heap := by rw [B.state]; rfl
    obtain ⟨meth', c', g1, g2, -, -, -, -, hex, -⟩ := Cond.code_spec B.named (hts _ List.mem_cons_self)
    have X0 := Stand.of_body B
    cases g1.symm.trans X0.method
    cases g2.symm.trans X0.code
    subst hsz
    have hD := hD0.self (sz := s.heap.size)
    obtain ⟨t, a1, o, b1, b2, b3⟩ := body p e s m below meth c (va_A w s.heap.size) ⟨⟨B.exec, B.bytes, hml, hown, fun w h => hts w (List.mem_cons_of_mem _ h)⟩, hK, fun q h => Or.inr h, hN0⟩ B.notSynchronized hex how s.heap [] _ hP hD va_S.rf (lv_entry av (n := maxL) hlen) s₁ hh0 X0
    rw [← lg_entry_eq] at a1
    exact ⟨t, o, a1, b1, b2, b3⟩
end TH
set_option maxRecDepth 100000 in
set_option maxHeartbeats 4000000 in
theorem th_stat (l : Launch) (htr : ∀ e, l.admits e → e.platform.stackTraces = false) (D : va_G) (cI cZ : ClassId) (q : Nat → Nat) (A : Rows) (nP : Nat) (nS : Nat) (a b w : Int32) (a0 : Nat) (hnP : A 0 0 = nI nP) (hlP : nP ≤ 12) (hnS : A 0 4 = nI nS) (hlS : nS ≤ 150) (hrg : rgC A) (hok : okT nP a b w = true) (hw3 : w = 3) (hcnt : (x_st A a b nS 1 0 0 (-1)).1 = 0) (sz : Nat) : tq l y_tr_statistics (Cond.code y_tr_statistics b_tr_statistics 9 (some .int) :: gt_) rmS [.ref (q 0), .int a, .int b, .int w] (fun U => jc_P D cls_ [(cI, .int), (cZ, .boolean)] nst_ sz (tw cI cZ q A) U ∧ ow a0 (va_A (tw cI cZ q A) sz) U U.heap) (fun st t => jc_B D cls_ [(cI, .int), (cZ, .boolean)] (va_A (tw cI cZ q A) sz) (tw cI cZ q A) t ∧ va_F (va_A (tw cI cZ q A) sz) st t) (va_A (tw cI cZ q A) sz) := by
  refine mt_T_of (by decide) (Nat.le_of_ble_eq_true rfl) ?_ sz
  intro p e s m below meth c AA X hlk hex how
  refine jj_lve (lv' := [(0, .ref (q 0)), (1, .int a), (2, .int b), (3, .int w)]) rfl ?_
  refine jj_aload_n X d_tr_statistics_0 1 rfl 0 rfl ?_
  refine jj_get (v := .ref (q 1)) X d_tr_statistics_1 4 rfl i_tr 0 f_tr_10 0 rfl rfl (by decide) rfl rfl ?_
  refine jj_iload_n X d_tr_statistics_4 5 rfl 1 rfl ?_
  refine jj_callV0 (st := []) X d_tr_statistics_5 8 rfl (c_pl_has l D cI cZ q A a) g_tr_63 ⟨rfl, w_pl_has⟩ ⟨(Nat.le_of_ble_eq_true rfl), (Nat.le_of_ble_eq_true rfl)⟩ rfl 1 rfl rfl rfl (Nat.le_of_ble_eq_true rfl) ⟨rfl, rfl⟩ ⟨Nat.zero_le _, Nat.zero_le _⟩ (fun r u hu => ?_)
  obtain ⟨rfl, rfl⟩ := hu
  rw [hnP]
  refine jj_if_eq X d_tr_statistics_8 22 11 (by decide) rfl (fun c8 => ?_) (fun c8 => ?_)
  · have c8 := b2_f c8
    exact absurd hok (by simp [okT, c8])
  · have c8 := b2_t c8
    refine jj_aload_n X d_tr_statistics_11 12 rfl 0 rfl ?_
    refine jj_get (v := .ref (q 1)) X d_tr_statistics_12 15 rfl i_tr 0 f_tr_10 0 rfl rfl (by decide) rfl rfl ?_
    refine jj_iload_n X d_tr_statistics_15 16 rfl 2 rfl ?_
    refine jj_callV0 (st := []) X d_tr_statistics_16 19 rfl (c_pl_has l D cI cZ q A b) g_tr_63 ⟨rfl, w_pl_has⟩ ⟨(Nat.le_of_ble_eq_true rfl), (Nat.le_of_ble_eq_true rfl)⟩ rfl 1 rfl rfl rfl (Nat.le_of_ble_eq_true rfl) ⟨rfl, rfl⟩ ⟨Nat.zero_le _, Nat.zero_le _⟩ (fun r u hu => ?_)
    obtain ⟨rfl, rfl⟩ := hu
    rw [hnP]
    refine jj_if_ne X d_tr_statistics_19 24 22 (by decide) rfl (fun c19 => ?_) (fun c19 => ?_)
    · have c19 := b2_t c19
      refine jj_iconst (v := 0) X d_tr_statistics_24 25 rfl (by decide) ?_
      refine jj_istore (lv' := [(0, .ref (q 0)), (1, .int a), (2, .int b), (3, .int w), (4, .int 0)]) X d_tr_statistics_25 27 rfl (by decide) rfl rfl ?_
      refine jj_iconst (v := 0) X d_tr_statistics_27 28 rfl (by decide) ?_
      refine jj_istore (lv' := [(0, .ref (q 0)), (1, .int a), (2, .int b), (3, .int w), (4, .int 0), (5, .int 0)]) X d_tr_statistics_28 30 rfl (by decide) rfl rfl ?_
      refine jj_iconst (v := -1) X d_tr_statistics_30 31 rfl (by decide) ?_
      refine jj_istore (lv' := [(0, .ref (q 0)), (1, .int a), (2, .int b), (3, .int w), (4, .int 0), (5, .int 0), (6, .int (-1))]) X d_tr_statistics_31 33 rfl (by decide) rfl rfl ?_
      refine jj_iconst (v := 1) X d_tr_statistics_33 34 rfl (by decide) ?_
      refine jj_istore (lv' := [(0, .ref (q 0)), (1, .int a), (2, .int b), (3, .int w), (4, .int 0), (5, .int 0), (6, .int (-1)), (7, .int 1)]) X d_tr_statistics_34 36 rfl (by decide) rfl rfl ?_
      refine jj_loop (fun ((j, n, s0, m0) : Nat × Int32 × Int32 × Int32) => 1 ≤ j ∧ j ≤ nS + 1 ∧ x_st A a b (nS + 1 - j) j n s0 m0 = (x_st A a b nS 1 0 0 (-1))) (fun ((j, n, s0, m0) : Nat × Int32 × Int32 × Int32) => nS + 1 - j) (fun ((j, n, s0, m0) : Nat × Int32 × Int32 × Int32) => [(0, .ref (q 0)), (1, .int a), (2, .int b), (3, .int w), (4, .int n), (5, .int s0), (6, .int m0), (7, .int (nI j))]) (fun ((j, n, s0, m0) : Nat × Int32 × Int32 × Int32) => []) (fun ((j, n, s0, m0) : Nat × Int32 × Int32 × Int32) => tw cI cZ q A) ((1, 0, 0, -1)) (⟨Nat.le_refl _, by simp, rfl⟩) rfl rfl rfl ?_
      rintro ⟨j, n, s0, m0⟩ hI ih36
      try dsimp only at hI ih36 ⊢
      obtain ⟨hj1, hj, hf⟩ := hI
      refine jj_iload X d_tr_statistics_36 38 rfl 7 rfl ?_
      refine jj_aload_n X d_tr_statistics_38 39 rfl 0 rfl ?_
      refine jj_get (v := .ref (q 5)) X d_tr_statistics_39 42 rfl i_tr 3 f_tr_33 0 rfl rfl (by decide) rfl rfl ?_
      refine jj_get (v := .int (nI nS)) X d_tr_statistics_42 45 rfl i_sl 6 f_tr_106 5 rfl rfl (by decide) rfl (by rw [← hnS]; rfl) ?_
      refine jj_icmp_gt X d_tr_statistics_45 132 48 (by decide) rfl (fun c45 => ?_) (fun c45 => ?_)
      · have hjn : j = nS + 1 := by have := nI_ltD c45 (by omega) (by omega); omega
        rw [hjn, Nat.sub_self] at hf
        have hz : (n, s0, m0) = (x_st A a b nS 1 0 0 (-1)) := hf
        refine jj_iload_n X d_tr_statistics_132 133 rfl 3 rfl ?_
        by_cases e133_0 : w = 0
        · refine jj_tableIn X d_tr_statistics_133 164 (by rw [e133_0]; decide) (by rw [e133_0]; decide) (by rw [e133_0]; rfl) (by decide) ?_
          exact absurd (e133_0.symm.trans hw3) (by decide)
        by_cases e133_1 : w = 1
        · refine jj_tableIn X d_tr_statistics_133 167 (by rw [e133_1]; decide) (by rw [e133_1]; decide) (by rw [e133_1]; rfl) (by decide) ?_
          exact absurd (e133_1.symm.trans hw3) (by decide)
        by_cases e133_2 : w = 2
        · refine jj_tableIn X d_tr_statistics_133 170 (by rw [e133_2]; decide) (by rw [e133_2]; decide) (by rw [e133_2]; rfl) (by decide) ?_
          exact absurd (e133_2.symm.trans hw3) (by decide)
        by_cases e133_3 : w = 3
        · refine jj_tableIn X d_tr_statistics_133 173 (by rw [e133_3]; decide) (by rw [e133_3]; decide) (by rw [e133_3]; rfl) (by decide) ?_
          refine jj_iload X d_tr_statistics_173 175 rfl 5 rfl ?_
          refine jj_iload X d_tr_statistics_175 177 rfl 4 rfl ?_
          have hn0 : n = 0 := by rw [← hz] at hcnt; exact hcnt
          subst hn0
          exact jj_avT htr X how hex hlk d_tr_statistics_177 (Nat.le_of_ble_eq_true rfl) (Nat.le_of_ble_eq_true rfl) (Nat.le_of_ble_eq_true rfl) (Nat.le_of_ble_eq_true rfl)
        refine jj_tableOut X d_tr_statistics_133 181 (sw_out 0 3 (by decide) (by decide) (fun z h1 h2 => by rcases (show z = 0 ∨ z = 1 ∨ z = 2 ∨ z = 3 by omega) with rfl | rfl | rfl | rfl <;> assumption)) (by decide) ?_
        exact absurd hw3 e133_3
      · have hjn : j ≤ nS := nI_nltD c45 (by omega) (by omega)
        refine jj_aload_n X d_tr_statistics_48 49 rfl 0 rfl ?_
        refine jj_get (v := .ref (q 5)) X d_tr_statistics_49 52 rfl i_tr 3 f_tr_33 0 rfl rfl (by decide) rfl rfl ?_
        refine jj_get (v := .ref (q 24)) X d_tr_statistics_52 55 rfl i_sl 2 f_tr_121 5 rfl rfl (by decide) rfl rfl ?_
        refine jj_iload X d_tr_statistics_55 57 rfl 7 rfl ?_
        refine jj_iald (v := A 17 j) X d_tr_statistics_57 58 rfl 24 0 rfl rfl (vp_in_nI (by omega) (by omega)) (ar_cl (by omega)) ?_
        refine jj_iconst (v := 2) X d_tr_statistics_58 59 rfl (by decide) ?_
        refine jj_icmp_ne X d_tr_statistics_59 126 62 (by decide) rfl (fun c59 => ?_) (fun c59 => ?_)
        · refine jj_iinc (v := nI (j + 1)) (lv' := [(0, .ref (q 0)), (1, .int a), (2, .int b), (3, .int w), (4, .int n), (5, .int s0), (6, .int m0), (7, .int (nI (j + 1)))]) X d_tr_statistics_126 129 rfl 7 rfl (ar_inc _) (by decide) rfl rfl ?_
          refine jj_goto X d_tr_statistics_129 36 (by decide) ?_
          exact ih36 ((j + 1, n, s0, m0)) (⟨by simp only; omega, by simp only; omega, by simp only; rw [← hf, x_st_s hjn]; simp [c59]⟩) (by simp only; omega)
        · refine jj_aload_n X d_tr_statistics_62 63 rfl 0 rfl ?_
          refine jj_get (v := .ref (q 2)) X d_tr_statistics_63 66 rfl i_tr 1 f_tr_19 0 rfl rfl (by decide) rfl rfl ?_
          refine jj_aload_n X d_tr_statistics_66 67 rfl 0 rfl ?_
          refine jj_get (v := .ref (q 5)) X d_tr_statistics_67 70 rfl i_tr 3 f_tr_33 0 rfl rfl (by decide) rfl rfl ?_
          refine jj_get (v := .ref (q 23)) X d_tr_statistics_70 73 rfl i_sl 1 f_tr_174 5 rfl rfl (by decide) rfl rfl ?_
          refine jj_iload X d_tr_statistics_73 75 rfl 7 rfl ?_
          refine jj_iald (v := A 16 j) X d_tr_statistics_75 76 rfl 23 0 rfl rfl (vp_in_nI (by omega) (by omega)) (ar_cl (by omega)) ?_
          refine jj_iload_n X d_tr_statistics_76 77 rfl 1 rfl ?_
          refine jj_iload_n X d_tr_statistics_77 78 rfl 2 rfl ?_
          refine jj_callV0 (st := []) X d_tr_statistics_78 81 rfl (c_ro_joins l D cI cZ q A (A 16 j) a b (hrg.2.1 _)) g_tr_189 ⟨rfl, w_ro_joins⟩ ⟨(Nat.le_of_ble_eq_true rfl), (Nat.le_of_ble_eq_true rfl)⟩ rfl 2 rfl rfl rfl (Nat.le_of_ble_eq_true rfl) ⟨rfl, rfl⟩ ⟨Nat.zero_le _, Nat.zero_le _⟩ (fun r u hu => ?_)
          obtain ⟨rfl, rfl⟩ := hu
          refine jj_if_eq X d_tr_statistics_81 126 84 (by decide) rfl (fun c81 => ?_) (fun c81 => ?_)
          · have c81 := b2_f c81
            refine jj_iinc (v := nI (j + 1)) (lv' := [(0, .ref (q 0)), (1, .int a), (2, .int b), (3, .int w), (4, .int n), (5, .int s0), (6, .int m0), (7, .int (nI (j + 1)))]) X d_tr_statistics_126 129 rfl 7 rfl (ar_inc _) (by decide) rfl rfl ?_
            refine jj_goto X d_tr_statistics_129 36 (by decide) ?_
            exact ih36 ((j + 1, n, s0, m0)) (⟨by simp only; omega, by simp only; omega, by simp only; rw [← hf, x_st_s hjn]; simp [c59, c81]⟩) (by simp only; omega)
          · have c81 := b2_t c81
            refine jj_aload_n X d_tr_statistics_84 85 rfl 0 rfl ?_
            refine jj_get (v := .ref (q 5)) X d_tr_statistics_85 88 rfl i_tr 3 f_tr_33 0 rfl rfl (by decide) rfl rfl ?_
            refine jj_get (v := .ref (q 27)) X d_tr_statistics_88 91 rfl i_sl 5 f_tr_177 5 rfl rfl (by decide) rfl rfl ?_
            refine jj_iload X d_tr_statistics_91 93 rfl 7 rfl ?_
            refine jj_iald (v := A 20 j) X d_tr_statistics_93 94 rfl 27 0 rfl rfl (vp_in_nI (by omega) (by omega)) (ar_cl (by omega)) ?_
            refine jj_aload_n X d_tr_statistics_94 95 rfl 0 rfl ?_
            refine jj_get (v := .ref (q 5)) X d_tr_statistics_95 98 rfl i_tr 3 f_tr_33 0 rfl rfl (by decide) rfl rfl ?_
            refine jj_get (v := .ref (q 25)) X d_tr_statistics_98 101 rfl i_sl 3 f_tr_186 5 rfl rfl (by decide) rfl rfl ?_
            refine jj_iload X d_tr_statistics_101 103 rfl 7 rfl ?_
            refine jj_iald (v := A 18 j) X d_tr_statistics_103 104 rfl 25 0 rfl rfl (vp_in_nI (by omega) (by omega)) (ar_cl (by omega)) ?_
            refine jj_isub X d_tr_statistics_104 105 rfl ?_
            refine jj_istore (lv' := [(0, .ref (q 0)), (1, .int a), (2, .int b), (3, .int w), (4, .int n), (5, .int s0), (6, .int m0), (7, .int (nI j)), (8, .int ((A 20 j) - (A 18 j)))]) X d_tr_statistics_105 107 rfl (by decide) rfl rfl ?_
            refine jj_iinc (v := n + 1) (lv' := [(0, .ref (q 0)), (1, .int a), (2, .int b), (3, .int w), (4, .int (n + 1)), (5, .int s0), (6, .int m0), (7, .int (nI j)), (8, .int ((A 20 j) - (A 18 j)))]) X d_tr_statistics_107 110 rfl 4 rfl rfl (by decide) rfl rfl ?_
            refine jj_iload X d_tr_statistics_110 112 rfl 5 rfl ?_
            refine jj_iload X d_tr_statistics_112 114 rfl 8 rfl ?_
            refine jj_iadd X d_tr_statistics_114 115 rfl ?_
            refine jj_istore (lv' := [(0, .ref (q 0)), (1, .int a), (2, .int b), (3, .int w), (4, .int (n + 1)), (5, .int (s0 + ((A 20 j) - (A 18 j)))), (6, .int m0), (7, .int (nI j)), (8, .int ((A 20 j) - (A 18 j)))]) X d_tr_statistics_115 117 rfl (by decide) rfl rfl ?_
            refine jj_iload X d_tr_statistics_117 119 rfl 6 rfl ?_
            refine jj_iload X d_tr_statistics_119 121 rfl 8 rfl ?_
            refine jj_mmax X d_tr_statistics_121 124 rfl l_tr_193 a_math_max s_math k_math_max (Nat.le_of_ble_eq_true rfl) (Nat.le_of_ble_eq_true rfl) (Nat.le_of_ble_eq_true rfl) (Nat.le_of_ble_eq_true rfl) ?_
            refine jj_istore (lv' := [(0, .ref (q 0)), (1, .int a), (2, .int b), (3, .int w), (4, .int (n + 1)), (5, .int (s0 + ((A 20 j) - (A 18 j)))), (6, .int (if m0 < ((A 20 j) - (A 18 j)) then ((A 20 j) - (A 18 j)) else m0)), (7, .int (nI j)), (8, .int ((A 20 j) - (A 18 j)))]) X d_tr_statistics_124 126 rfl (by decide) rfl rfl ?_
            refine jj_iinc (v := nI (j + 1)) (lv' := [(0, .ref (q 0)), (1, .int a), (2, .int b), (3, .int w), (4, .int (n + 1)), (5, .int (s0 + ((A 20 j) - (A 18 j)))), (6, .int (if m0 < ((A 20 j) - (A 18 j)) then ((A 20 j) - (A 18 j)) else m0)), (7, .int (nI (j + 1))), (8, .int ((A 20 j) - (A 18 j)))]) X d_tr_statistics_126 129 rfl 7 rfl (ar_inc _) (by decide) rfl rfl ?_
            refine jj_goto X d_tr_statistics_129 36 (by decide) ?_
            refine jj_lvs (lv' := [(0, .ref (q 0)), (1, .int a), (2, .int b), (3, .int w), (4, .int (n + 1)), (5, .int (s0 + ((A 20 j) - (A 18 j)))), (6, .int (if m0 < ((A 20 j) - (A 18 j)) then ((A 20 j) - (A 18 j)) else m0)), (7, .int (nI (j + 1)))]) (by simp) ?_
            exact ih36 ((j + 1, n + 1, s0 + ((A 20 j) - (A 18 j)), if m0 < ((A 20 j) - (A 18 j)) then ((A 20 j) - (A 18 j)) else m0)) (⟨by simp only; omega, by simp only; omega, by simp only; rw [← hf, x_st_s hjn]; simp [c59, c81]⟩) (by simp only; omega)
    · have c19 := b2_f c19
      exact absurd hok (by simp [okT, c8, c19])
