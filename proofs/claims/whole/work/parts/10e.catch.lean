def cw_la : Cond := Cond.codeWith y_la_statistics b_la_statistics 6 (some .int) [(0, 12, 15, 13)]
theorem k_la_statistics : cw_la ∈ gt_ := gt_i 422 (by decide +kernel) (by decide +kernel)
theorem g_st : GoodIn gt_ (Cond.code y_tr_statistics b_tr_statistics 9 (some .int) :: gt_) := fun w hw => g_la_7 w (by unfold wsV; exact List.mem_append_right _ hw)
theorem g_lst : GoodIn gt_ (cw_la :: gt_) := fun w hw => by
  rcases List.mem_cons.mp hw with rfl | h
  · exact gt_good _ k_la_statistics
  · exact gt_good _ h
def rmL : Room := { frames := 8, cells := 1, slots := 6, locals := 150 }
section TL
variable {p : Program} {l : Launch} {e : Env} {R : Room} {s : State} {m : MethodId} {args : Array Value} {below : List Frame} {meth : Method} {c : Code} {Q : State → Prop} {cc : ByteArray} {nL : Nat} {Ts : List Cond} {own : String} {D : va_G} {cl : List vw_C} {tys : List (ClassId × FieldType)} {nst : List Cond} {A : Nat → Prop} {k n pc : Nat} {lv : List (Nat × Value)} {st : List Value} {ws : va_W}
theorem jx_2 {cI cZ cL : ClassId} (X : jc_X p s m args c cc nL Ts own D cl [(cI, .int), (cZ, .boolean), (cL, .long)] nst A) : jc_X p s m args c cc nL Ts own D cl [(cI, .int), (cZ, .boolean)] nst A := ⟨X.1, X.2.1.sub [0, 1] rfl, X.2.2.1, X.2.2.2⟩
theorem jj_i2l (X : jc_X p s m args c cc nL Ts own D cl tys nst A) {x : Int32} (d : decode cc pc = .ok (.i2l, 1)) (pc' : Nat) (hp : pc + 1 = pc') (h : jc_J p l e R s m args below meth c Q D cl A nL k n pc' lv (.long x.toInt64 :: st) ws) : jc_J p l e R s m args below meth c Q D cl A nL k n pc lv (.int x :: st) ws := by
  subst hp
  exact fun H locs ls hP hD hS hl => lv_i2l X.1.1 X.1.2.1 d rfl (h H locs ls hP hD hS hl)
theorem jj_last (X : jc_X p s m args c cc nL Ts own D cl tys nst A) {cA : ClassId} {a N : Nat} {f : Nat → Int64} {i : Int32} {x : Int64} {ws' : va_W} (d : decode cc pc = .ok (.lastore, 1)) (pc' : Nat) (hp : pc + 1 = pc') (q0 t0 : Nat) (ha : ws[q0]? = some (a, .inl (cA, N, .inr (.inl f)))) (ht : tys[t0]? = some (cA, .long)) (hin : vp_in i N) (hw : ws.set q0 (a, .inl (cA, N, .inr (.inl (vp_updL f i.toNatClampNeg x)))) = ws') (h : jc_J p l e R s m args below meth c Q D cl A nL k n pc' lv st ws') : jc_J p l e R s m args below meth c Q D cl A nL k n pc lv (.long x :: .int i :: .ref a :: st) ws := by
  subst hp; subst hw
  exact fun H locs ls hP hD hS hl => va_last X.1.1 X.1.2.1 X.2.1 hP hD hS q0 t0 ha ht hin d (fun H locs hP hD hS => h H locs ls hP hD hS hl)
theorem jj_lald (X : jc_X p s m args c cc nL Ts own D cl tys nst A) {cA : ClassId} {a N : Nat} {f : Nat → Int64} {i : Int32} {v : Int64} (d : decode cc pc = .ok (.laload, 1)) (pc' : Nat) (hp : pc + 1 = pc') (q0 t0 : Nat) (ha : ws[q0]? = some (a, .inl (cA, N, .inr (.inl f)))) (ht : tys[t0]? = some (cA, .long)) (hin : vp_in i N) (hv : f i.toNatClampNeg = v) (h : jc_J p l e R s m args below meth c Q D cl A nL k n pc' lv (.long v :: st) ws) : jc_J p l e R s m args below meth c Q D cl A nL k n pc lv (.int i :: .ref a :: st) ws := by
  subst hp; subst hv
  exact fun H locs ls hP hD hS hl => va_lald X.1.1 X.1.2.1 X.2.1 hP q0 t0 ha ht hin d (h H locs ls hP hD hS hl)
/-- two longs that are the same are compared -/
theorem jj_lcmpE (X : jc_X p s m args c cc nL Ts own D cl tys nst A) {x : Int64} (d : decode cc pc = .ok (.lcmp, 1)) (pc' : Nat) (hp : pc + 1 = pc') (h : jc_J p l e R s m args below meth c Q D cl A nL k n pc' lv (.int 0 :: st) ws) : jc_J p l e R s m args below meth c Q D cl A nL k n pc lv (.long x :: .long x :: st) ws := by
  subst hp
  intro H locs ls hP hD hS hl T hT XT
  have hexec := X.1.1
  have hb := X.1.2.1
  obtain ⟨t, a, b⟩ := h H locs ls hP hD hS hl T hT XT
  refine ⟨t, ?_, b⟩
  have hlt : ¬ x < x := Int64.lt_irrefl
  jvm_step XT.here [XT.here.top, hexec, hb, d, hlt]
  exact a
set_option maxHeartbeats 4000000 in
/-- a call of an instance method that throws -/
theorem callVT {T : State} {locs : List Loc} {cells slots : Nat} (X : Stand p l e R s m args below meth c T locs cells slots) (hexec : p.tables.exec = Jvm.exec) {own C : String} {index : Nat} {y : MethodName} {bytes : ByteArray} {maxL : Nat} {ret : Option FieldType}
    (hown : s.vm.findClass own = some m.cls) (hlink : (Cond.methodLink own index y).before args s = true) (hinst : (Cond.instanceMethod y).before args s = true) (hsel : (Cond.selects C y y).before args s = true)
    (hcode : (Cond.code y bytes maxL ret).before args s = true) (hy : y.cls ≠ "java/lang/invoke/MethodHandle" ∧ y.cls ≠ "java/lang/invoke/VarHandle")
    {W : Nat} {Pre : Pt → Array Value → Prop} {Post : Pt → Array Value → Addr → Pt → Prop} (hK : BackT l R p e below s args y 3 W Pre Post)
    {b : Addr} {cellB : Cell} (hcell : T.heap[b]? = some cellB) (hobj : cellB.vm.isStatics = false) (hcls : s.vm.findClass C = some cellB.cls)
    {g : JFrame} (hg : g.method = m) (hsize : g.locals.size = c.maxLocals) {argsL rest : List Value} (hlen : ∀ sig, parseMethodDescriptor y.desc = some sig → argsL.length = sig.parameters.length)
    (hstack : g.stack = argsL.reverse ++ .ref b :: rest) (hW : 2 * g.monitorRoom + (rest.map fun v => v.category).sum ≤ W) (hdg : decode c.code g.pc = .ok (.invokevirtual index, 3))
    (hpre : ∀ vm₁, s.WarmedH vm₁ → Pre ⟨T.setVm vm₁, locs, cells, slots⟩ (Value.ref b :: argsL).toArray) :
    ∃ (v : Addr) (vm₁ : Vm) (B : Pt), s.WarmedH vm₁ ∧ Stand p l e R s m args below meth c B.U B.locs B.cells B.slots ∧ Post ⟨T.setVm vm₁, locs, cells, slots⟩ (Value.ref b :: argsL).toArray v B ∧
      Steps p.tables e below (T.setTop g) ((B.U.setTop { g with stack := rest }).pushFrame (.throwing v)) := by
  obtain ⟨mk, methM, hnamed, hmethM, hstM, habM⟩ := Cond.instanceMethod_spec hinst
  obtain ⟨methM', cM, hmethM', -, -, -, -, -, -, hsigM⟩ := Cond.code_spec hnamed hcode
  cases hmethM.symm.trans hmethM'
  obtain ⟨c2, r2, m2, q1, q2, q3, q4, kP, hkP, hkPi⟩ := Cond.selects_spec hsel
  cases hcls.symm.trans q1
  cases (State.methodFound?_of_named hnamed hy).symm.trans q2
  cases hnamed.symm.trans q3
  have hselP : selectMethod e.platform s.vm cellB.cls mk = .method mk := by rw [Launch.admits_selectMethod X.admits]; exact q4
  obtain ⟨vm₁, X₁, hstep₁⟩ := X.invokevirtual hexec hown hlink hnamed hmethM hstM hkP hkPi hy (a := b) (cell := cellB) hcell
    (fun z h => by rw [h] at hobj; cases hobj) hselP hmethM habM hkP hkPi (g := g) hg (argsL := argsL) (rest := rest) (hlen _ hsigM) hstack hdg
  obtain ⟨v, B, X', hpost, hsteps⟩ := hK m meth c ⟨T.setVm vm₁, locs, cells, slots⟩ { g with stack := rest } (.invokevirtual index) mk (Value.ref b :: argsL).toArray X₁ hg hsize hdg hW (X₁.named hnamed) (hpre vm₁ X₁.warmed)
  exact ⟨v, vm₁, B, X₁.warmed, X', hpost, hstep₁ _ fun acts => by rw [doInvoke_state]; exact hsteps⟩
/-- what is known behind statistics, thrown out of -/
def tS (D : va_G) (w : va_W) (sz : Nat) (A1 : Pt) (v : Nat) (B1 : Pt) : Prop := A1.U.heap.size ≤ v ∧ (∃ ce : Cell, B1.U.heap[v]? = some ce ∧ ce.vm.isStatics = false ∧ A1.U.vm.findClass owX = some ce.cls) ∧ va_P D cls_ w B1.U.heap ∧ va_D (va_A w sz) w ∧ A1.U.heap.size ≤ B1.U.heap.size ∧ (∀ q : Nat, q < A1.U.heap.size → ¬ va_A w sz q → B1.U.heap[q]? = A1.U.heap[q]?) ∧ (∃ L : List Loc, B1.locs = A1.locs ++ L ∧ ∀ x ∈ L, va_A w sz x.base) ∧ B1.cells = A1.cells + 1 ∧ B1.slots = A1.slots + 6
set_option maxHeartbeats 4000000 in
theorem th_backS (htr : ∀ e, l.admits e → e.platform.stackTraces = false) {a0 : Nat} (X : jc_X p s m args c cc nL gt_ own D cl tys nst A) {cI cZ : ClassId} {q : Nat → Nat} {Ar : Rows} {nP nS : Nat} {a b w : Int32} (hnP : Ar 0 0 = nI nP) (hlP : nP ≤ 12) (hnS : Ar 0 4 = nI nS) (hlS : nS ≤ 150) (hrg : rgC Ar) (hok : okT nP a b w = true) (hw3 : w = 3) (hcnt : (x_st Ar a b nS 1 0 0 (-1)).1 = 0) (sz : Nat) (hRf : 8 ≤ R.frames) (hRl : 148 ≤ R.locals) : BackT l R p e below s args y_tr_statistics 3 8 (fun A1 z => A1.cells + 1 ≤ R.cells ∧ A1.slots + 6 ≤ R.slots ∧ z = ([.ref (q 0), .int a, .int b, .int w] : List Value).toArray ∧ jc_P D cls_ [(cI, .int), (cZ, .boolean)] nst_ sz (tw cI cZ q Ar) A1.U ∧ ow a0 (va_A (tw cI cZ q Ar) sz) A1.U A1.U.heap) (fun A1 _ v B1 => tS D (tw cI cZ q Ar) sz A1 v B1) := by
  refine BackT.of_free (bytes := b_tr_statistics) (maxL := 9) (ret := some .int) (E := fun _ _ _ _ L k n => (∀ x ∈ L, va_A (tw cI cZ q Ar) sz x.base) ∧ k = 1 ∧ n = 6) (th_stat l htr D cI cZ q Ar nP nS a b w a0 hnP hlP hnS hlS hrg hok hw3 hcnt sz) hRf hRl ?_ ?_ (fun _ _ _ _ _ _ _ _ _ => trivial) ?_ ?_
  · intro m1 meth1 c1 A1 z X1 hp
    have hpay := pay_in X.1.2.2.2.2 g_st
    exact ⟨atoms_intro fun w hw => hpay w hw _ _ X1.warmed, hpay _ List.mem_cons_self _ _ X1.warmed, word_at X1.warmed (Or.inl rfl) (X.1.2.2.2.2 _ s_tr), hp.1, hp.2.1⟩
  · intro m1 meth1 c1 A1 z g mk X1 hp
    exact ⟨hp.2.2.1, (jc_P_blind (av := z.toList) (w := tw cI cZ q Ar) (sz := sz) z A1.U g mk ⟨by simp, hp.2.2.2.1⟩).2, ow_same (s := A1.U) (U := A1.U.calling g mk z) rfl hp.2.2.2.2⟩
  · intro z first o t ⟨hq, L, hF, hL⟩
    exact ⟨L, 1, 6, hF, hL, rfl, rfl⟩
  · intro m1 meth1 c1 A1 z g mk v t L k1 n1 X1 hp hq hF hE
    obtain ⟨hL, rfl, rfl⟩ := hE
    obtain ⟨⟨v2, ce, hv, h1, h2, h3, h4, ⟨h5, -, h6⟩, h7⟩, -⟩ := hq
    cases hv
    exact ⟨h1, ⟨ce, h2, h3, h4⟩, h5, h6, h7.1, h7.2, ⟨L, rfl, hL⟩, rfl, rfl⟩
set_option maxHeartbeats 4000000 in
theorem jj_stT (htr : ∀ e, l.admits e → e.platform.stackTraces = false) {a0 : Nat} {cI cZ : ClassId} (X : jc_X p s m args c cc nL gt_ "TransitRowsLaw" D cls_ [(cI, .int), (cZ, .boolean)] nst_ A) {q : Nat → Nat} {Ar : Rows} {nP nS : Nat} {a b w : Int32} {w1 w2 : va_W} (how : ow a0 A s s.heap) (hnP : Ar 0 0 = nI nP) (hlP : nP ≤ 12) (hnS : Ar 0 4 = nI nS) (hlS : nS ≤ 150) (hrg : rgC Ar) (hok : okT nP a b w = true) (hw3 : w = 3) (hcnt : (x_st Ar a b nS 1 0 0 (-1)).1 = 0)
    (x : ExceptionTableEntry) (hx : c.exceptionTable.toList = [x]) (hcov : covers x pc = true) (hct : x.catchType = 13) (pc' : Nat) (hpx : x.handlerPc = pc') (d : decode cc pc = .ok (.invokevirtual 7, 3)) (hRf : 8 ≤ R.frames) (hRl : 148 ≤ R.locals) (hk : k + 1 ≤ R.cells) (hn : n + 6 ≤ R.slots) (hws : ws = w1 ++ (tw cI cZ q Ar ++ w2)) (hst : (st.map fun v => v.category).sum ≤ 8)
    (h : ∀ v : Nat, jc_J p l e R s m args below meth c Q D cls_ A nL (k + 1) (n + 6) pc' lv [.ref v] ws) : jc_J p l e R s m args below meth c Q D cls_ A nL k n pc lv (.int w :: .int b :: .int a :: .ref (q 0) :: st) ws := by
  subst hws
  intro H locs ls hP hD hS hl T hT XT
  have hPw := jw_Pl (jw_Pr hP)
  have hDw : va_D (fun _ => True) (tw cI cZ q Ar) := (jw_Dl (jw_Dr hD)).weaken (fun _ _ _ _ => trivial)
  have hF := jw_free hD hS X.2.2.1
  obtain ⟨cellB, hcB, hoB, hclB⟩ := va_recv X.2.1 hPw (ci := 7) (q0 := 0) rfl rfl
  obtain ⟨v, vm₁, B1, hW₁, XB, hpost, st1⟩ := callVT XT X.1.1 (own := "TransitRowsLaw") (C := "TransitRows") (index := 7) (y := y_tr_statistics) X.1.2.2.2.1 (X.1.2.2.2.2 _ l_la_7) (X.1.2.2.2.2 _ m_tr_statistics) (X.1.2.2.2.2 _ e_tr_statistics) (X.1.2.2.2.2 _ k_tr_statistics) ⟨w_tr_statistics.1, w_tr_statistics.2.1⟩ (th_backS htr (a0 := a0) X hnP hlP hnS hlS hrg hok hw3 hcnt H.size hRf hRl) (b := q 0) (cellB := cellB) (by rw [hT]; exact hcB) hoB hclB (g := F0 m pc ls (.int w :: .int b :: .int a :: .ref (q 0) :: st)) rfl (by rw [X.1.2.2.1]; exact hl.1) (argsL := [.int a, .int b, .int w]) (rest := st) (fun sig h => by
      have := w_tr_statistics.2.2
      rw [h] at this
      exact (Option.some.inj this).symm) rfl (by simpa using hst) (by rw [X.1.2.1]; exact d) (fun vm₁ hW => ⟨hk, hn, rfl, ⟨by show T.heap.size = _; rw [hT], by show va_P D cls_ _ T.heap; rw [hT]; exact hPw, va_K.moved (U := T.setVm vm₁) hW.alike X.2.1, hDw, jc_N_warm (U := T.setVm vm₁) hW X.2.2.2⟩, by
        show ow a0 _ (T.setVm vm₁) T.heap
        rw [hT]
        exact ow_narrow (ow_kept (ow_warm (U := T.setVm vm₁) hW how) hS.2.1) (fun q9 _ z => hF q9 z)⟩)
  obtain ⟨U, L2, c2, n2⟩ := B1
  obtain ⟨h1, ⟨ce, h2, h3, h4⟩, h5, h6, h7, h8, ⟨L, h9, h10⟩, h11, h12⟩ := hpost
  dsimp only [Pt.U, Pt.locs, Pt.cells, Pt.slots] at XB st1 h1 h2 h4 h5 h7 h8 h9 h11 h12
  subst h9; subst h11; subst h12
  have hTh : (T.setVm vm₁).heap = H := hT
  rw [hTh] at h1 h7 h8
  have e1 : s.vm.findClass owX = some ce.cls := by
    have e1 : vm₁.findClass owX = s.vm.findClass owX := hW₁.alike.findClass _ _
    rw [← e1]
    exact h4
  have hcast : (Cond.castable owX owX).before #[] s = true := how.1 _ (by unfold owAll Jvm.Bundle.ownAtoms; simp) rfl
  obtain ⟨c3, c4, hc3, hc4, hasg⟩ := Cond.castable_spec hcast
  cases hc3.symm.trans e1
  cases hc4.symm.trans e1
  obtain ⟨hend, hk0⟩ := XB.catches_of_link (own := "TransitRowsLaw") (name := owX) X.1.2.2.2.1 (x := x) (by rw [hct]; decide) (by rw [hct]; exact X.1.2.2.2.2 _ q_la_13) e1 hasg
  obtain ⟨vm', XV, stV⟩ := XB.thenCaughtThrough v (g := F0 m pc ls st) rfl st1 h2 h3 hk0 [] x [] hx (fun y hy => by cases hy) hcov hend
  obtain ⟨hP2, hD2⟩ := jw_frame hP hD (fun q9 g1 g2 => h8 q9 g1 g2) hF h5 h6
  have hS2 : va_S A s.heap U.heap (locs ++ L) := ⟨Nat.le_trans hS.1 h7, fun q9 g1 g2 => by
    rw [h8 q9 (Nat.lt_of_lt_of_le g1 hS.1) (fun z => g2 (hF q9 z))]
    exact hS.2.1 q9 g1 g2, fun y hy => by
    rcases List.mem_append.mp hy with z | z
    · exact hS.2.2 y z
    · exact hF _ (h10 y z)⟩
  obtain ⟨t, a1, b1⟩ := h v U.heap (locs ++ L) ls hP2 hD2 hS2 hl (U.setVm vm') rfl XV
  rw [← hpx] at a1
  exact ⟨t, stV.trans a1, b1⟩
end TL
