def cw_la : Cond := Cond.codeWith y_la_statistics b_la_statistics 6 (some .int) [(0, 12, 15, 13)]
theorem k_la_statistics : cw_la ∈ gt_ := gt_i 422 (by decide +kernel) (by decide +kernel)
theorem g_st : GoodIn gt_ (Cond.code y_tr_statistics b_tr_statistics 9 (some .int) :: gt_) := fun w hw => g_la_7 w (by unfold wsV; exact List.mem_append_right _ hw)
theorem g_lst : GoodIn gt_ (cw_la :: gt_) := fun w hw => by
  rcases List.mem_cons.mp hw with rfl | h
  · exact gt_good _ k_la_statistics
  · exact gt_good _ h
def rmL : Room := { frames := 8, cells := 1, slots := 6, locals := 150 }
section TL
variable {p : Program} {l : Launch} {e : Env} {R : Room} {s : State} {m : MethodId} {args : Array Value} {below : List Frame} {meth : Method} {c : Code} {Q : State → Prop} {cc : ByteArray} {nL : Nat} {Ts : List Cond} {own : String} {D : va_G} {cl : List vw_C} {tys : List (ClassId × FieldType)} {nst : List Cond} {A : Nat → Prop} {k n pc : Nat} {lv : List (Nat × Value)} {st : List Value} {ws : va_W}
theorem jx_2 {cI cZ cL : ClassId} (X : jc_X p s m args c cc nL Ts own D cl [(cI, .int), (cZ, .boolean), (cL, .long)] nst A) : jc_X p s m args c cc nL Ts own D cl [(cI, .int), (cZ, .boolean)] nst A := ⟨X.1, X.2.1.sub [0, 1] rfl, X.2.2.1, X.2.2.2⟩
theorem jj_i2l (X : jc_X p s m args c cc nL Ts own D cl tys nst A) {x : Int32} (d : decode cc pc = .ok (.i2l, 1)) (pc' : Nat) (hp : pc + 1 = pc') (h : jc_J p l e R s m args below meth c Q D cl A nL k n pc' lv (.long x.toInt64 :: st) ws) : jc_J p l e R s m args below meth c Q D cl A nL k n pc lv (.int x :: st) ws := by
  subst hp
  exact fun H locs ls hP hD hS hl => lv_i2l X.1.1 X.1.2.1 d rfl (h H locs ls hP hD hS hl)
theorem jj_last (X : jc_X p s m args c cc nL Ts own D cl tys nst A) {cA : ClassId} {a N : Nat} {f : Nat → Int64} {i : Int32} {x : Int64} {ws' : va_W} (d : decode cc pc = .ok (.lastore, 1)) (pc' : Nat) (hp : pc + 1 = pc') (q0 t0 : Nat) (ha : ws[q0]? = some (a, .inl (cA, N, .inr (.inl f)))) (ht : tys[t0]? = some (cA, .long)) (hin : vp_in i N) (hw : ws.set q0 (a, .inl (cA, N, .inr (.inl (vp_updL f i.toNatClampNeg x)))) = ws') (h : jc_J p l e R s m args below meth c Q D cl A nL k n pc' lv st ws') : jc_J p l e R s m args below meth c Q D cl A nL k n pc lv (.long x :: .int i :: .ref a :: st) ws := by
  subst hp; subst hw
  exact fun H locs ls hP hD hS hl => va_last X.1.1 X.1.2.1 X.2.1 hP hD hS q0 t0 ha ht hin d (fun H locs hP hD hS => h H locs ls hP hD hS hl)
theorem jj_lald (X : jc_X p s m args c cc nL Ts own D cl tys nst A) {cA : ClassId} {a N : Nat} {f : Nat → Int64} {i : Int32} {v : Int64} (d : decode cc pc = .ok (.laload, 1)) (pc' : Nat) (hp : pc + 1 = pc') (q0 t0 : Nat) (ha : ws[q0]? = some (a, .inl (cA, N, .inr (.inl f)))) (ht : tys[t0]? = some (cA, .long)) (hin : vp_in i N) (hv : f i.toNatClampNeg = v) (h : jc_J p l e R s m args below meth c Q D cl A nL k n pc' lv (.long v :: st) ws) : jc_J p l e R s m args below meth c Q D cl A nL k n pc lv (.int i :: .ref a :: st) ws := by
  subst hp; subst hv
  exact fun H locs ls hP hD hS hl => va_lald X.1.1 X.1.2.1 X.2.1 hP q0 t0 ha ht hin d (h H locs ls hP hD hS hl)
/-- two longs that are the same are compared -/
theorem jj_lcmpE (X : jc_X p s m args c cc nL Ts own D cl tys nst A) {x : Int64} (d : decode cc pc = .ok (.lcmp, 1)) (pc' : Nat) (hp : pc + 1 = pc') (h : jc_J p l e R s m args below meth c Q D cl A nL k n pc' lv (.int 0 :: st) ws) : jc_J p l e R s m args below meth c Q D cl A nL k n pc lv (.long x :: .long x :: st) ws := by
  subst hp
  intro H locs ls hP hD hS hl T hT XT
  have hexec := X.1.1
  have hb := X.1.2.1
  obtain ⟨t, a, b⟩ := h H locs ls hP hD hS hl T hT XT
  refine ⟨t, ?_, b⟩
  have hlt : ¬ x < x := Int64.lt_irrefl
  jvm_step XT.here [XT.here.top, hexec, hb, d, hlt]
  exact a
set_option maxHeartbeats 4000000 in
theorem jj_stT (htr : ∀ e, l.admits e → e.platform.stackTraces = false) {a0 : Nat} {cI cZ : ClassId} (X : jc_X p s m args c cc nL gt_ "TransitRowsLaw" D cls_ [(cI, .int), (cZ, .boolean)] nst_ A) {q : Nat → Nat} {Ar : Rows} {nP nS : Nat} {a b w : Int32} {w1 w2 : va_W} (how : ow a0 A s s.heap) (hnP : Ar 0 0 = nI nP) (hlP : nP ≤ 12) (hnS : Ar 0 4 = nI nS) (hlS : nS ≤ 150) (hrg : rgC Ar) (hok : okT nP a b w = true) (hw3 : w = 3) (hcnt : (x_st Ar a b nS 1 0 0 (-1)).1 = 0)
    (x : ExceptionTableEntry) (hx : c.exceptionTable.toList = [x]) (hcov : covers x pc = true) (hct : x.catchType = 13) (pc' : Nat) (hpx : x.handlerPc = pc') (d : decode cc pc = .ok (.invokevirtual 7, 3)) (hRf : 8 ≤ R.frames) (hRl : 148 ≤ R.locals) (hk : k + 1 ≤ R.cells) (hn : n + 6 ≤ R.slots) (hws : ws = w1 ++ (tw cI cZ q Ar ++ w2)) (hst : (st.map fun v => v.category).sum ≤ 8)
    (h : ∀ v : Nat, jc_J p l e R s m args below meth c Q D cls_ A nL (k + 1) (n + 6) pc' lv [.ref v] ws) : jc_J p l e R s m args below meth c Q D cls_ A nL k n pc lv (.int w :: .int b :: .int a :: .ref (q 0) :: st) ws := by
  subst hws
  intro H locs ls hP hD hS hl T hT XT
  have hPw := jw_Pl (jw_Pr hP)
  have hDw : va_D (fun _ => True) (tw cI cZ q Ar) := (jw_Dl (jw_Dr hD)).weaken (fun _ _ _ _ => trivial)
  have hF := jw_free hD hS X.2.2.1
  obtain ⟨cellB, hcB, hoB, hclB⟩ := va_recv X.2.1 hPw (ci := 7) (q0 := 0) rfl rfl
  have hcode := X.1.2.2.2.2 _ k_tr_statistics
  have hy : y_tr_statistics.cls ≠ "java/lang/invoke/MethodHandle" ∧ y_tr_statistics.cls ≠ "java/lang/invoke/VarHandle" := ⟨w_tr_statistics.1, w_tr_statistics.2.1⟩
  obtain ⟨mk, methM, hnamed, hmethM, hstM, habM⟩ := Cond.instanceMethod_spec (X.1.2.2.2.2 _ m_tr_statistics)
  obtain ⟨methM', cM, hmethM', -, -, -, -, -, -, hsigM⟩ := Cond.code_spec hnamed hcode
  cases hmethM.symm.trans hmethM'
  obtain ⟨c2, r2, m2, q1, q2, q3, q4, kP, hkP, hkPi⟩ := Cond.selects_spec (X.1.2.2.2.2 _ e_tr_statistics)
  cases hclB.symm.trans q1
  cases (State.methodFound?_of_named hnamed hy).symm.trans q2
  cases hnamed.symm.trans q3
  have hselP : selectMethod e.platform s.vm cellB.cls mk = .method mk := by rw [Launch.admits_selectMethod XT.admits]; exact q4
  have hdg : decode c.code pc = .ok (.invokevirtual 7, 3) := by rw [X.1.2.1]; exact d
  obtain ⟨vm₁, X₁, hstep₁⟩ := XT.invokevirtual X.1.1 X.1.2.2.2.1 (X.1.2.2.2.2 _ l_la_7) hnamed hmethM hstM hkP hkPi hy (a := q 0) (cell := cellB) (by rw [hT]; exact hcB)
    (fun z h => by rw [h] at hoB; cases hoB) hselP hmethM habM hkP hkPi (g := F0 m pc ls (.int w :: .int b :: .int a :: .ref (q 0) :: st)) rfl (argsL := [.int a, .int b, .int w]) (rest := st) (by
      have := w_tr_statistics.2.2
      rw [hsigM] at this
      exact (Option.some.inj this).symm) rfl hdg
  have hW₁ := X₁.warmed
  have hpay := pay_in X.1.2.2.2.2 g_st
  have hroom : 2 * (F0 m pc ls st).monitorRoom + ((F0 m pc ls st).stack.map fun v => v.category).sum ≤ 8 := by simpa using hst
  have hjP : jc_P D cls_ [(cI, .int), (cZ, .boolean)] nst_ H.size (tw cI cZ q Ar) (T.setVm vm₁) := ⟨by show T.heap.size = _; rw [hT], by show va_P D cls_ _ T.heap; rw [hT]; exact hPw, va_K.moved (U := T.setVm vm₁) hW₁.alike X.2.1, hDw, jc_N_warm (U := T.setVm vm₁) hW₁ X.2.2.2⟩
  have hjo : ow a0 (va_A (tw cI cZ q Ar) H.size) (T.setVm vm₁) (T.setVm vm₁).heap := by
    show ow a0 _ (T.setVm vm₁) T.heap
    rw [hT]
    exact ow_narrow (ow_kept (ow_warm (U := T.setVm vm₁) hW₁ how) hS.2.1) (fun q9 _ z => hF q9 z)
  obtain ⟨v, t0, L, XB, h10, h1, ⟨ce, h2, h3, h4⟩, -, ⟨⟨h5, -, h6⟩, h7, h8⟩, st0⟩ := tw_run X₁ (th_stat l htr D cI cZ q Ar nP nS a b w a0 hnP hlP hnS hlS hrg hok hw3 hcnt H.size) (X₁.named hnamed) (fun w hw => hpay w hw _ _ hW₁) (hpay _ List.mem_cons_self _ _ hW₁) (word_at hW₁ (Or.inl rfl) (X.1.2.2.2.2 _ s_tr)) (g := F0 m pc ls st) rfl (by rw [X.1.2.2.1]; exact hl.1) hdg hRf (by
      show _ + (9 + 11) + 120 ≤ _
      omega) hk hn ⟨(jc_P_blind (av := [.ref (q 0), .int a, .int b, .int w]) (w := tw cI cZ q Ar) (sz := H.size) _ (T.setVm vm₁) (F0 m pc ls st) mk ⟨rfl, hjP⟩).2, ow_same (s := T.setVm vm₁) rfl hjo⟩
  have st1 := hstep₁ _ fun acts => by rw [doInvoke_state]; exact st0
  obtain ⟨U, hU⟩ : ∃ U, U = tU (T.setVm vm₁) t0 := ⟨_, rfl⟩
  rw [← hU] at XB st1
  have hUh : t0.heap = U.heap := by rw [hU]; rfl
  have h7 : (T.setVm vm₁).heap.size ≤ t0.heap.size := h7
  have h8 : ∀ q9 : Nat, q9 < (T.setVm vm₁).heap.size → ¬ va_A (tw cI cZ q Ar) H.size q9 → t0.heap[q9]? = (T.setVm vm₁).heap[q9]? := h8
  rw [hUh] at h2 h5 h7 h8
  have hTh : (T.setVm vm₁).heap = H := hT
  rw [hTh] at h1 h7 h8
  have e1 : s.vm.findClass owX = some ce.cls := by
    have e1 : vm₁.findClass owX = s.vm.findClass owX := hW₁.alike.findClass _ _
    rw [← e1]
    exact h4
  have hcast : (Cond.castable owX owX).before #[] s = true := how.1 _ (by unfold owAll Jvm.Bundle.ownAtoms; simp) rfl
  obtain ⟨c3, c4, hc3, hc4, hasg⟩ := Cond.castable_spec hcast
  cases hc3.symm.trans e1
  cases hc4.symm.trans e1
  obtain ⟨vm', XV, st2⟩ := tw_catch XB (g := F0 m pc ls st) rfl h2 h3 (own := "TransitRowsLaw") (name := owX) X.1.2.2.2.1 hx hcov (by rw [hct]; decide) (by rw [hct]; exact X.1.2.2.2.2 _ q_la_13) e1 hasg
  have stV := st1.trans st2
  obtain ⟨hP2, hD2⟩ := jw_frame hP hD (fun q9 g1 g2 => h8 q9 g1 g2) hF h5 h6
  have hS2 : va_S A s.heap U.heap (locs ++ L) := ⟨Nat.le_trans hS.1 h7, fun q9 g1 g2 => by
    rw [h8 q9 (Nat.lt_of_lt_of_le g1 hS.1) (fun z => g2 (hF q9 z))]
    exact hS.2.1 q9 g1 g2, fun y hy => by
    rcases List.mem_append.mp hy with z | z
    · exact hS.2.2 y z
    · exact hF _ (h10 y z)⟩
  obtain ⟨t, a1, b1⟩ := h v U.heap (locs ++ L) ls hP2 hD2 hS2 hl (U.setVm vm') rfl XV
  rw [← hpx] at a1
  exact ⟨t, stV.trans a1, b1⟩
end TL
