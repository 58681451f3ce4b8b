theorem s_ae : Cond.initialized owX ∈ gt_ := gt_i 14 (by decide +kernel) (by decide +kernel)
theorem z_ae : Cond.instantiable owX 6 ∈ gt_ := gt_i 435 (by decide +kernel) (by decide +kernel)
def rmA : Room := { frames := 6, cells := 1, slots := 6, locals := 90 }
theorem ow_fit : Jvm.Bundle.fit owX = true := by decide +kernel
theorem ow_fits : ∀ n ∈ owN, Jvm.Bundle.fit n = true := by decide +kernel
set_option maxHeartbeats 4000000 in
theorem th_avg (l : Launch) (htr : ∀ e, l.admits e → e.platform.stackTraces = false) (D : va_G) (a0 : Nat) (x : Int32) : tq l y_tr_average (Cond.code y_tr_average b_tr_average 2 (some .int) :: gt_) rmA [.int x, .int 0] (fun U => ow a0 (fun _ => False) U U.heap) (fun st t => ∀ q : Nat, q < st.heap.size → t.heap[q]? = st.heap[q]?) (fun _ => False) := by
  refine MetFree.of_bodyS (code := b_tr_average) (maxLocals := 2) (ret := some .int) (by decide) ?_ ?_
  · intro args s m h hn
    obtain ⟨meth, c, h1, h2, h3, h4, h5, h6, -, -⟩ := Cond.code_spec hn (atoms_spec (ws := Cond.code y_tr_average b_tr_average 2 (some .int) :: gt_) h _ List.mem_cons_self)
    exact ⟨meth, c, h1, h2, h3, h4, h5, h6⟩
  · intro p e s m args below meth c s₁ B hml hP0 _
    obtain ⟨rfl, how⟩ := hP0
    have hts := atoms_spec (ws := Cond.code y_tr_average b_tr_average 2 (some .int) :: gt_) B.pre
    have hown : s.vm.findClass "TransitRows" = some m.cls := findClass_of_methodNamed B.named
    have hh0 : s₁.heap = s.heap := by rw [B.state]; rfl
    obtain ⟨meth', c', g1, g2, -, -, -, -, hex, -⟩ := Cond.code_spec B.named (hts _ List.mem_cons_self)
    have X0 := Stand.of_body B
    cases g1.symm.trans X0.method
    cases g2.symm.trans X0.code
    have X : jc_X p s m ([.int x, .int 0] : List Value).toArray c b_tr_average 2 gt_ "TransitRows" D [] [] [] (fun q => s.heap.size ≤ q) := ⟨⟨B.exec, B.bytes, hml, hown, fun w h => hts w (List.mem_cons_of_mem _ h)⟩, ⟨fun c q h => by simp at h, fun c q h => by simp at h⟩, fun q h => h, fun w hw => by cases hw⟩
    have key : jc_J p l e (headSpec (Cond.code y_tr_average b_tr_average 2 (some .int) :: gt_) rmA).room s m ([.int x, .int 0] : List Value).toArray below meth c (fun t => ∃ o, t.status = .running ∧ Ended t below o ∧ (∃ (q : Nat) (ce : Cell), o = .threw q ∧ s.heap.size ≤ q ∧ t.heap[q]? = some ce ∧ ce.vm.isStatics = false ∧ s.vm.findClass owX = some ce.cls ∧ ∀ q : Nat, q < s.heap.size → t.heap[q]? = s.heap[q]?) ∧ ∃ L, tE s t L rmA.cells rmA.slots ∧ ∀ x ∈ L, False) D [] (fun q => s.heap.size ≤ q) 2 0 0 0 (lv_args 0 [.int x, .int 0]) [] [] := by
      refine jj_lve (lv' := [(0, .int x), (1, .int 0)]) rfl ?_
      refine jj_iload_n X d_tr_average_0 1 rfl 1 rfl ?_
      refine jj_if_ne X d_tr_average_1 14 4 (by decide) rfl (fun c1 => absurd rfl c1) (fun _ => ?_)
      intro H locs ls hP hD hS hl
      refine W.newc (own := "TransitRows") (C := owX) (index := 205) (n := 6) X.1.1 X.1.2.1 hown (X.1.2.2.2.2 _ q_tr_205) (X.1.2.2.2.2 _ z_ae) (X.1.2.2.2.2 _ s_ae) rfl d_tr_average_4 (Nat.le_of_ble_eq_true rfl) (Nat.le_of_ble_eq_true rfl) ?_
      intro cC kC h1 h2 h3 h4
      refine lv_dup X.1.1 X.1.2.1 d_tr_average_7 rfl ?_
      refine va_ldcS (index := 207) X.1.1 X.1.2.1 hown how.2.1 d_tr_average_8 ?_
      intro T hT XT
      have hcell : T.heap[H.size]? = some (freshCell cC kC) := by rw [hT]; simp
      have hlocs : ∀ y ∈ locs, ∀ cell, s.heap[y.base]? = some cell → cell.vm.isStatics = false := fun y hy cell hc => absurd (Array.getElem?_eq_some_iff.mp hc).1 (Nat.not_lt.mpr (hS.2.2 y hy))
      obtain ⟨U, st, hrun, hend, hW, hsame, ce, hce, hoc⟩ := XT.ctorThrowS X.1.1 (htr e XT.admits) (own := "TransitRows") (cls := owX) (names := owN) (ic := 209) hown ow_fit ow_fits (ow_all how _) hlocs h1 h2 hcell hS.1 (msg := .ref a0) rfl (g := F0 m 10 ls [.ref a0, .ref H.size, .ref H.size]) rfl (by rw [hml]; exact hl.1) rfl rfl (rest := []) rfl (by rw [X.1.2.1]; exact d_tr_average_10) (by rw [X.1.2.1]; exact d_tr_average_13) (fun y hy => by
        have : c.exceptionTable.toList = [] := by simpa using hex
        rw [this] at hy
        cases hy) (Nat.le_of_ble_eq_true rfl) (Nat.le_of_ble_eq_true rfl) B.notSynchronized
      have hs2 := State.sameButNew.drop_fresh (L := []) (J := locs) hsame (fun y hy => hS.2.2 y hy)
      refine ⟨U, st, .threw H.size, hrun, hend, ⟨H.size, ce, rfl, hS.1, hce, by rw [hoc.vm]; rfl, hoc.cls, fun q hq => ?_⟩, [], ⟨hW, hs2⟩, fun y hy => by cases hy⟩
      obtain ⟨cell, hc⟩ : ∃ cell, s.heap[q]? = some cell := ⟨_, Array.getElem?_eq_getElem hq⟩
      rw [hc]
      exact State.sameButNew.kept_nil hs2 hc
    obtain ⟨t, a1, o, b1, b2, b3⟩ := key s.heap [] _ (fun k q h => by simp at h) ⟨fun i j p q h => by simp at h, fun k q h => by simp at h⟩ va_S.rf (lv_entry [.int x, .int 0] (n := 2) (Nat.le_of_ble_eq_true rfl)) s₁ hh0 X0
    rw [← lg_entry_eq] at a1
    exact ⟨t, o, a1, b1, b2, b3⟩
