/-- a contract that wants the words of a throw too -/
def mt_L (l : Launch) (D : va_G) (tys : List (ClassId × FieldType)) (a0 : Nat) (av : List Value) (w : va_W) (post : Int32 → va_W → Prop) : Prop :=
  ∀ sz : Nat, Met l y_la_statistics (cw_la :: gt_) rmL (fun a U => a = av.toArray ∧ jc_P D cls_ tys nst_ sz w U ∧ ow a0 (va_A w sz) U U.heap) (va_Qi post (jc_B D cls_ tys (va_A w sz)) (va_A w sz)) 1 6 (va_A w sz)
theorem tab_1 {c : Code} (h : c.exceptionTable.toList.map (fun h => (h.startPc, h.endPc, h.handlerPc, h.catchType)) = [(0, 12, 15, 13)]) : ∃ x : ExceptionTableEntry, c.exceptionTable.toList = [x] ∧ covers x 7 = true ∧ x.catchType = 13 ∧ x.handlerPc = 15 := by
  cases e : c.exceptionTable.toList with
  | nil => rw [e] at h; cases h
  | cons x t =>
    rw [e] at h
    cases t with
    | cons y u => simp at h
    | nil =>
      simp only [List.map_cons, List.map_nil, List.cons.injEq, Prod.mk.injEq, and_true] at h
      refine ⟨x, rfl, ?_, h.2.2.2, h.2.2.1⟩
      simp [covers, h.1, h.2.1]
set_option maxRecDepth 100000 in
set_option maxHeartbeats 4000000 in
theorem c_la_statistics (l : Launch) (htr : ∀ e, l.admits e → e.platform.stackTraces = false) (D : va_G) (cI cZ cL : ClassId) (q : Nat → Nat) (Ar : Rows) (nP nS qL : Nat) (f : Nat → Int64) (a b w : Int32) (a0 : Nat) (hnP : Ar 0 0 = nI nP) (hlP : nP ≤ 12) (hnS : Ar 0 4 = nI nS) (hlS : nS ≤ 150) (hrg : rgC Ar) :
    mt_L l D [(cI, .int), (cZ, .boolean), (cL, .long)] a0 [.ref (q 0), .int a, .int b, .int w, .ref qL] (tw cI cZ q Ar ++ [(qL, .inl (cL, 1, .inr (.inl f)))]) (fun r u => ((okT nP a b w = true ∧ w = 3 ∧ (x_st Ar a b nS 1 0 0 (-1)).1 = 0) ∧ r = 1 ∧ u = (tw cI cZ q Ar ++ [(qL, .inl (cL, 1, .inr (.inl f)))])) ∨ (¬ (okT nP a b w = true ∧ w = 3 ∧ (x_st Ar a b nS 1 0 0 (-1)).1 = 0) ∧ r = 0 ∧ u = (tw cI cZ q Ar ++ [(qL, .inl (cL, 1, .inr (.inl (vp_updL f 0 (Int32.toInt64 (if okT nP a b w = true then o_stM (x_st Ar a b nS 1 0 0 (-1)) w else -1))))))]))) := by
  intro sz
  refine va_MetW (cc := b_la_statistics) (maxL := 6) (ret := some .int) (hh := [(0, 12, 15, 13)]) (by decide) rfl ?_
  intro p e s m args below meth c s₁ B hml hP0
  obtain ⟨rfl, ⟨hsz, hP, hK, hD0, hN0⟩, how⟩ := hP0
  have hts := atoms_spec (ws := cw_la :: gt_) B.pre
  have hown : s.vm.findClass "TransitRowsLaw" = some m.cls := findClass_of_methodNamed B.named
  obtain ⟨m9, meth', c', hn9, g1, g2, -, -, htab, -⟩ := Cond.codeWith_spec (hts _ List.mem_cons_self)
  have X0 := Stand.of_body B
  cases hn9.symm.trans B.named
  cases g1.symm.trans X0.method
  cases g2.symm.trans X0.code
  obtain ⟨x, hx, hcov, hct, hpx⟩ := tab_1 htab
  subst hsz
  have hD := hD0.self (sz := s.heap.size)
  have X : jc_X p s m ([.ref (q 0), .int a, .int b, .int w, .ref qL] : List Value).toArray c b_la_statistics 6 gt_ "TransitRowsLaw" D cls_ [(cI, .int), (cZ, .boolean), (cL, .long)] nst_ (va_A (tw cI cZ q Ar ++ [(qL, .inl (cL, 1, .inr (.inl f)))]) s.heap.size) := ⟨⟨B.exec, B.bytes, hml, hown, fun w h => hts w (List.mem_cons_of_mem _ h)⟩, hK, fun q h => Or.inr h, hN0⟩
  have X2 := jx_2 X
  have hr := B.returns
  have hlk := B.notSynchronized
  have hl := lv_entry ([.ref (q 0), .int a, .int b, .int w, .ref qL] : List Value) (n := 6) (Nat.le_of_ble_eq_true rfl)
  rw [lg_entry_eq]
  have key : jc_J p l e (headSpec (cw_la :: gt_) rmL).room s m ([.ref (q 0), .int a, .int b, .int w, .ref qL] : List Value).toArray below meth c (MQ below (va_Qi (fun r u => ((okT nP a b w = true ∧ w = 3 ∧ (x_st Ar a b nS 1 0 0 (-1)).1 = 0) ∧ r = 1 ∧ u = (tw cI cZ q Ar ++ [(qL, .inl (cL, 1, .inr (.inl f)))])) ∨ (¬ (okT nP a b w = true ∧ w = 3 ∧ (x_st Ar a b nS 1 0 0 (-1)).1 = 0) ∧ r = 0 ∧ u = (tw cI cZ q Ar ++ [(qL, .inl (cL, 1, .inr (.inl (vp_updL f 0 (Int32.toInt64 (if okT nP a b w = true then o_stM (x_st Ar a b nS 1 0 0 (-1)) w else -1))))))]))) (jc_B D cls_ [(cI, .int), (cZ, .boolean), (cL, .long)] (va_A (tw cI cZ q Ar ++ [(qL, .inl (cL, 1, .inr (.inl f)))]) s.heap.size)) (va_A (tw cI cZ q Ar ++ [(qL, .inl (cL, 1, .inr (.inl f)))]) s.heap.size)) ([.ref (q 0), .int a, .int b, .int w, .ref qL] : List Value).toArray s 1 6 (va_A (tw cI cZ q Ar ++ [(qL, .inl (cL, 1, .inr (.inl f)))]) s.heap.size)) D cls_ (va_A (tw cI cZ q Ar ++ [(qL, .inl (cL, 1, .inr (.inl f)))]) s.heap.size) 6 0 0 0 (lv_args 0 [.ref (q 0), .int a, .int b, .int w, .ref qL]) [] (tw cI cZ q Ar ++ [(qL, .inl (cL, 1, .inr (.inl f)))]) := by
    refine jj_lve (lv' := [(0, .ref (q 0)), (1, .int a), (2, .int b), (3, .int w), (4, .ref qL)]) rfl ?_
    refine jj_aload X d_la_statistics_0 2 rfl 4 rfl ?_
    refine jj_iconst (v := 0) X d_la_statistics_2 3 rfl (by decide) ?_
    refine jj_aload_n X d_la_statistics_3 4 rfl 0 rfl ?_
    refine jj_iload_n X d_la_statistics_4 5 rfl 1 rfl ?_
    refine jj_iload_n X d_la_statistics_5 6 rfl 2 rfl ?_
    refine jj_iload_n X d_la_statistics_6 7 rfl 3 rfl ?_
    by_cases thr : (okT nP a b w = true ∧ w = 3 ∧ (x_st Ar a b nS 1 0 0 (-1)).1 = 0)
    · refine jj_stT htr X2 (w1 := []) (w2 := [(qL, .inl (cL, 1, .inr (.inl f)))]) how hnP hlP hnS hlS hrg thr.1 thr.2.1 thr.2.2 x hx hcov hct 15 hpx d_la_statistics_7 (Nat.le_of_ble_eq_true rfl) (Nat.le_of_ble_eq_true rfl) (Nat.le_of_ble_eq_true rfl) (Nat.le_of_ble_eq_true rfl) rfl (Nat.le_of_ble_eq_true rfl) (fun v => ?_)
      refine jj_astore (lv' := [(0, .ref (q 0)), (1, .int a), (2, .int b), (3, .int w), (4, .ref qL), (5, .ref v)]) X d_la_statistics_15 17 rfl (by decide) rfl rfl ?_
      refine jj_iconst (v := 1) X d_la_statistics_17 18 rfl (by decide) ?_
      exact jj_iret X hr hlk d_la_statistics_18 (Or.inl ⟨thr, rfl, rfl⟩)
    · refine jj_callV (w1 := []) (w := tw cI cZ q Ar) (w2 := [(qL, .inl (cL, 1, .inr (.inl f)))]) (st := [.int 0, .ref qL]) X2 d_la_statistics_7 10 rfl (c_tr_statistics l D cI cZ q Ar nP nS a b w hnP hlP hnS hlS hrg thr) g_la_7 ⟨rfl, w_tr_statistics⟩ ⟨(Nat.le_of_ble_eq_true rfl), (Nat.le_of_ble_eq_true rfl)⟩ rfl 0 rfl rfl rfl (Nat.le_of_ble_eq_true rfl) ⟨(Nat.le_of_ble_eq_true rfl), (Nat.le_of_ble_eq_true rfl)⟩ (fun r u hu => ?_)
      obtain ⟨rfl, rfl⟩ := hu
      refine jj_i2l X d_la_statistics_10 11 rfl ?_
      refine jj_last (ws' := (tw cI cZ q Ar ++ [(qL, .inl (cL, 1, .inr (.inl (vp_updL f 0 (Int32.toInt64 (if okT nP a b w = true then o_stM (x_st Ar a b nS 1 0 0 (-1)) w else -1))))))])) X d_la_statistics_11 12 rfl 33 2 rfl rfl (vp_in_nI (n := 0) (by omega) (by omega)) rfl ?_
      refine jj_goto X d_la_statistics_12 19 (by decide) ?_
      refine jj_iconst (v := 0) X d_la_statistics_19 20 rfl (by decide) ?_
      refine jj_widen (k' := 1) (n' := 6) (Nat.le_of_ble_eq_true rfl) (Nat.le_of_ble_eq_true rfl) ?_
      exact jj_iret X hr hlk d_la_statistics_20 (Or.inr ⟨thr, rfl, rfl⟩)
  exact key s.heap [] _ hP hD va_S.rf hl
section TC
variable {p : Program} {l : Launch} {e : Env} {R : Room} {s : State} {m : MethodId} {args : Array Value} {below : List Frame} {meth : Method} {c : Code} {Q : State → Prop} {cc : ByteArray} {nL : Nat} {D : va_G} {tys : List (ClassId × FieldType)} {A : Nat → Prop} {k n pc : Nat} {lv : List (Nat × Value)} {st st0 : List Value} {ws : va_W}
set_option maxHeartbeats 4000000 in
theorem jj_callSL {a0 : Nat} {av : List Value} {post : Int32 → va_W → Prop} {w1 w w2 : va_W} (X : jc_X p s m args c cc nL gt_ "TransitRowsLaw" D cls_ tys nst_ A) (how : ow a0 A s s.heap) (d : decode cc pc = .ok (.invokestatic 93, 3)) (pc' : Nat) (hp : pc + 3 = pc') (M : mt_L l D tys a0 av w post) (hlen : av.length = 5) (hRf : 9 ≤ R.frames) (hRl : 175 ≤ R.locals) (hws : ws = w1 ++ (w ++ w2)) (hst : st0 = av.reverse ++ st) (hW : (st.map fun v => v.category).sum ≤ 8) (hk : k + 1 ≤ R.cells) (hn : n + 6 ≤ R.slots)
    (h : ∀ (r : Int32) (u : va_W), post r u → jc_J p l e R s m args below meth c Q D cls_ A nL (k + 1) (n + 6) pc' lv (.int r :: st) (w1 ++ (u ++ w2))) : jc_J p l e R s m args below meth c Q D cls_ A nL k n pc lv st0 ws := by
  subst hp; subst hws; subst hst
  intro H locs ls hP hD hS hl
  have hPw := jw_Pl (jw_Pr hP)
  have hDw : va_D (fun _ => True) w := (jw_Dl (jw_Dr hD)).weaken (fun _ _ _ _ => trivial)
  have hF := jw_free hD hS X.2.2.1
  refine jj_afterI (mc := 1) (ms := 6) (a := av.toArray) X hP hD hS hl ?_ h
  intro T hT XT
  have hpay := pay_in X.1.2.2.2.2 g_lst
  have hcode := X.1.2.2.2.2 _ k_la_statistics
  have hblind : FrameBlind (fun a U => a = av.toArray ∧ jc_P D cls_ tys nst_ H.size w U ∧ ow a0 (va_A w H.size) U U.heap) := fun a U g mk hq => by
    obtain ⟨q0, q1, q2⟩ := hq
    exact ⟨q0, (jc_P_blind (av := a.toList) (w := w) (sz := H.size) a U g mk ⟨by simp, q1⟩).2, ow_same (s := U) (U := U.calling g mk a) rfl q2⟩
  have hK : Back l R p e below s args y_la_statistics 3 8 (PreOf R 1 6 (fun a U => a = av.toArray ∧ jc_P D cls_ tys nst_ H.size w U ∧ ow a0 (va_A w H.size) U U.heap)) (PostOf (va_Qi post (jc_B D cls_ tys (va_A w H.size)) (va_A w H.size)) 1 6 (va_A w H.size)) :=
    va_backW (hh := [(0, 12, 15, 13)]) (bytes := b_la_statistics) (maxL := 6) (ret := some .int) (M H.size) hblind rfl rfl hRf hRl hpay List.mem_cons_self (fun a' U hW => word_at hW (Or.inl rfl) (X.1.2.2.2.2 _ s_la))
  obtain ⟨mk, methM, cM, hnamed, hmethM, -, -, -, -, -, -, hsigM⟩ := Cond.codeWith_spec hcode
  have hstatic : methM.isStatic = true := Cond.static_spec hnamed hmethM (X.1.2.2.2.2 _ a_la_statistics)
  obtain ⟨kP, hkP, -⟩ := className_of_methodNamed hnamed
  have hinitP : kP.init = .initialized := Cond.initialized_spec (findClass_of_methodNamed hnamed) hkP (X.1.2.2.2.2 _ s_la)
  have hdg : decode c.code pc = .ok (.invokestatic 93, 3) := by rw [X.1.2.1]; exact d
  obtain ⟨vm₁, X₁, hstep₁⟩ := XT.invokestatic X.1.1 X.1.2.2.2.1 (X.1.2.2.2.2 _ l_la_93) hnamed hmethM hstatic hkP hinitP ⟨w_la_statistics.1, w_la_statistics.2.1⟩ (g := F0 m pc ls (av.reverse ++ st)) rfl (argsL := av) (rest := st) (by
    have := w_la_statistics.2.2
    rw [hsigM] at this
    exact hlen.trans (Option.some.inj this).symm) rfl hdg
  obtain ⟨v, ⟨U', l2, c2, s2⟩, X', hpost, hsteps⟩ := hK m meth c ⟨T.setVm vm₁, locs, k, n⟩ (F0 m pc ls st) (.invokestatic 93) mk av.toArray X₁ rfl (by rw [X.1.2.2.1]; exact hl.1) hdg (by simpa using hW) (X₁.named hnamed) ⟨hk, hn, rfl, ⟨by show T.heap.size = _; rw [hT], by show va_P D cls_ _ T.heap; rw [hT]; exact hPw, va_K.moved X₁.warmed.alike X.2.1, hDw, jc_N_warm X₁.warmed X.2.2.2⟩, by
    show ow a0 _ (T.setVm vm₁) T.heap
    rw [hT]
    exact ow_narrow (ow_kept (ow_warm X₁.warmed how) hS.2.1) (fun q9 _ z => hF q9 z)⟩
  obtain ⟨g', mk', t, L, e1, e2, hq, h1, hL, h2, h3⟩ := hpost
  dsimp only [Pt.U, Pt.locs, Pt.cells, Pt.slots] at X' e1 e2 h1 h2 h3 hsteps
  subst h1; subst h2; subst h3
  exact ⟨v, (T.setVm vm₁).calling g' mk' av.toArray, t, U', L, hT, X', hL, e1, e2, hq, fun tg htg => hstep₁ _ fun acts => by rw [doInvoke_state]; exact hsteps.trans htg⟩
end TC
