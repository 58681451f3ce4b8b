section START
variable {p : Program} {l : Launch} {e : Env} {s : State} {m : MethodId} {below : List Frame} {meth : Method} {c : Code} {D : va_G} {cI cZ cL : ClassId} {q1 q2 : Nat → Nat} {qL b L a0 : Nat} {xs : Nat → Int32}
set_option maxHeartbeats 4000000 in
theorem law_end (X : jc_X p s m #[Value.ref b] c b_la_law 7 gt_ "TransitRowsLaw" D cls_ [(cI, .int), (cZ, .boolean), (cL, .long)] nst_ (fun q => s.heap.size ≤ q)) (hr : meth.sig.returnType = ret) (hlk : meth.locks = false) {k n : Nat} (hk : k ≤ 1069) (hn : n ≤ 12485) {lv : List (Nat × Value)} {ws : va_W} : jc_J p l e room_1 s m #[Value.ref b] below meth c (lw_Z below #[Value.ref b] s) D cls_ (fun q => s.heap.size ≤ q) 7 k n 972 lv [] ws := by
  refine jj_iconst (v := 1) X d_la_law_972 973 rfl (by decide) ?_
  intro H locs ls hP hD hS hl T hT XT
  have X9 : Stand p l e room_1 s m #[Value.ref b] below meth c T [] 1069 12485 := { XT with same := (State.sameButNew.drop_fresh (L := []) (J := locs) XT.same (fun y hy => hS.2.2 y hy)).mono hk hn }
  exact lw_ret X.1.1 X.1.2.1 hr hlk d_la_law_973 T hT X9
set_option maxHeartbeats 4000000 in
theorem law_loop (htr : ∀ e, l.admits e → e.platform.stackTraces = false) (how : ow a0 (fun q => s.heap.size ≤ q) s s.heap) (X : jc_X p s m #[Value.ref b] c b_la_law 7 gt_ "TransitRowsLaw" D cls_ [(cI, .int), (cZ, .boolean), (cL, .long)] nst_ (fun q => s.heap.size ≤ q)) (hX : va_X b L xs s s.heap) (hbl : b < s.heap.size) (hL : L ≤ 3072) (hr : meth.sig.returnType = ret) (hlk : meth.locks = false) : ∀ (N j : Nat) (A B : Rows) (f : Nat → Int64), L + 6 ≤ 6 * j + N → 6 * j ≤ L → Iv A B → jc_J p l e room_1 s m #[Value.ref b] below meth c (lw_Z below #[Value.ref b] s) D cls_ (fun q => s.heap.size ≤ q) 7 (44 + j) (4287 + 6 * j) 23 [(0, .ref b), (1, .ref (q1 0)), (2, .ref (q2 0)), (3, .ref qL), (4, .int (nI (6 * j)))] [] (mw cI cZ q2 B ++ (tw cI cZ q1 A ++ [(qL, .inl (cL, 1, .inr (.inl f)))]))
  | 0, j, A, B, f, h1, h2, _ => absurd h1 (by omega)
  | N + 1, j, A, B, f, h1, h2, hI => law_step htr how X hX hbl (Nat.not_le.mpr hbl) hL h2 hI (fun _ => law_end X hr hlk (by omega) (by omega)) (fun h3 A' B' f' hI' => law_loop htr how X hX hbl hL hr hlk N (j + 1) A' B' f' (by omega) h3 hI')
theorem jj_newL {R : Room} {args : Array Value} {cc : ByteArray} {nL k n pc : Nat} {Ts : List Cond} {own : String} {cl : List vw_C} {tys : List (ClassId × FieldType)} {nst : List Cond} {A : Nat → Prop} {Q : State → Prop} {lv : List (Nat × Value)} {st : List Value} {ws : va_W} (X : jc_X p s m args c cc nL Ts own D cl tys nst A) {cA : ClassId} {z : Int32} {N : Nat} (d : decode cc pc = .ok (.newarray .long, 2)) (pc' : Nat) (hp : pc + 2 = pc') (harr : Cond.arrayClass .long ∈ Ts) (t0 : Nat) (ht : tys[t0]? = some (cA, .long)) (hn : ¬ z < 0) (hN : z.toNatClampNeg = N) (hb : N * componentBytes .long ≤ 536870912) (hc : k + 1 ≤ R.cells) (hs : n + N ≤ R.slots) (h : ∀ q : Nat, jc_J p l e R s m args below meth c Q D cl A nL (k + 1) (n + N) pc' lv (.ref q :: st) (ws ++ [(q, .inl (cA, N, .inr (.inl (fun _ => 0))))])) : jc_J p l e R s m args below meth c Q D cl A nL k n pc lv (.int z :: st) ws := by
  subst hp
  refine fun H locs ls hP hD hS hl => ?_
  refine va_newa (atype := .long) (a0 := (N, .inr (.inl (fun _ => 0)))) (ty := .long) X.1.1 X.1.2.1 (X.1.2.2.2.2 _ harr) rfl X.2.1 hP hD hS X.2.2.1 (fun _ => rfl) hn hN hb hc hs d (fun q cB H1 hK1 hP1 hD1 hS1 => ?_)
  have e1 := (hK1.2 tys.length (cB, .long) (by simp)).2
  have e2 := (X.2.1.2 t0 (cA, .long) ht).2
  have e3 : cB = cA := Option.some.inj (e1.symm.trans e2)
  subst e3
  exact h q H1 locs ls hP1 hD1 hS1 hl
set_option maxRecDepth 100000 in
set_option maxHeartbeats 4000000 in
theorem law_start (htr : ∀ e, l.admits e → e.platform.stackTraces = false) (how : ow a0 (fun q => s.heap.size ≤ q) s s.heap) (X : jc_X p s m #[Value.ref b] c b_la_law 7 gt_ "TransitRowsLaw" D cls_ [(cI, .int), (cZ, .boolean), (cL, .long)] nst_ (fun q => s.heap.size ≤ q)) (hX : va_X b L xs s s.heap) (hbl : b < s.heap.size) (hL : L ≤ 3072) (hr : meth.sig.returnType = ret) (hlk : meth.locks = false) : jc_J p l e room_1 s m #[Value.ref b] below meth c (lw_Z below #[Value.ref b] s) D cls_ (fun q => s.heap.size ≤ q) 7 0 0 0 (lv_args 0 [.ref b]) [] [] := by
  have X2 := jx_2 X
  refine jj_lve (lv' := [(0, .ref b)]) rfl ?_
  refine jj_new (ci := 7) (fs := [.null, .null, .null, .null, .null, .null, .null, .int 0]) X d_la_law_0 3 rfl i_tr t_tr t_tr_ok q_la_8 z_tr s_tr rfl (fun j hj => by rcases (show j = 0 ∨ j = 1 ∨ j = 2 ∨ j = 3 ∨ j = 4 ∨ j = 5 ∨ j = 6 ∨ j = 7 by omega) with rfl | rfl | rfl | rfl | rfl | rfl | rfl | rfl <;> rfl) (Nat.le_of_ble_eq_true rfl) (Nat.le_of_ble_eq_true rfl) (fun h1 => ?_)
  refine jj_dup X d_la_law_3 4 rfl rfl ?_
  refine jj_callI (w1 := []) (w := [(h1, .inr (7, [.null, .null, .null, .null, .null, .null, .null, .int 0]))]) (w2 := []) (st := [.ref h1]) X2 d_la_law_4 7 rfl (c_tr_init l D cI cZ h1) (gt_C k_tr_init) l_la_15 s_tr m_tr_init rfl w_tr_init ⟨(Nat.le_of_ble_eq_true rfl), (Nat.le_of_ble_eq_true rfl)⟩ rfl rfl (Nat.le_of_ble_eq_true rfl) ⟨(Nat.le_of_ble_eq_true rfl), (Nat.le_of_ble_eq_true rfl)⟩ (fun u hu => ?_)
  obtain ⟨q1, rfl, rfl⟩ := hu
  refine jj_wse (ws' := tw cI cZ q1 (fun _ _ => 0)) rfl ?_
  refine jj_astore_n (lv' := [(0, .ref b), (1, .ref (q1 0))]) X d_la_law_7 8 rfl (by decide) rfl rfl ?_
  refine jj_new (ci := 8) (fs := [.int 0, .int 0, .null, .int 0, .null, .null, .null, .int 0, .int 0, .null, .null, .null, .int 0, .null, .int 0, .null, .int 0]) X d_la_law_8 11 rfl i_mo t_mo t_mo_ok q_la_16 z_mo s_mo rfl (fun j hj => by rcases (show j = 0 ∨ j = 1 ∨ j = 2 ∨ j = 3 ∨ j = 4 ∨ j = 5 ∨ j = 6 ∨ j = 7 ∨ j = 8 ∨ j = 9 ∨ j = 10 ∨ j = 11 ∨ j = 12 ∨ j = 13 ∨ j = 14 ∨ j = 15 ∨ j = 16 by omega) with rfl | rfl | rfl | rfl | rfl | rfl | rfl | rfl | rfl | rfl | rfl | rfl | rfl | rfl | rfl | rfl | rfl <;> rfl) (Nat.le_of_ble_eq_true rfl) (Nat.le_of_ble_eq_true rfl) (fun h2 => ?_)
  refine jj_dup X d_la_law_11 12 rfl rfl ?_
  refine jj_callI (w1 := tw cI cZ q1 (fun _ _ => 0)) (w := [(h2, .inr (8, [.int 0, .int 0, .null, .int 0, .null, .null, .null, .int 0, .int 0, .null, .null, .null, .int 0, .null, .int 0, .null, .int 0]))]) (w2 := []) (st := [.ref h2]) X2 d_la_law_12 15 rfl (c_mo_init l D cI cZ h2) (gt_C k_mo_init) l_la_18 s_mo m_mo_init rfl w_mo_init ⟨(Nat.le_of_ble_eq_true rfl), (Nat.le_of_ble_eq_true rfl)⟩ rfl rfl (Nat.le_of_ble_eq_true rfl) ⟨(Nat.le_of_ble_eq_true rfl), (Nat.le_of_ble_eq_true rfl)⟩ (fun u hu => ?_)
  obtain ⟨q2, rfl, rfl⟩ := hu
  refine jj_wse (ws' := tw cI cZ q1 (fun _ _ => 0) ++ mw cI cZ q2 (fun _ _ => 0)) rfl ?_
  refine jj_astore_n (lv' := [(0, .ref b), (1, .ref (q1 0)), (2, .ref (q2 0))]) X d_la_law_15 16 rfl (by decide) rfl rfl ?_
  refine jj_iconst (v := 1) X d_la_law_16 17 rfl (by decide) ?_
  refine jj_newL (N := 1) X d_la_law_17 19 rfl v_long 2 rfl (by decide) (by decide) (by decide) (Nat.le_of_ble_eq_true rfl) (Nat.le_of_ble_eq_true rfl) (fun qL => ?_)
  refine jj_astore_n (lv' := [(0, .ref b), (1, .ref (q1 0)), (2, .ref (q2 0)), (3, .ref qL)]) X d_la_law_19 20 rfl (by decide) rfl rfl ?_
  refine jj_iconst (v := 0) X d_la_law_20 21 rfl (by decide) ?_
  refine jj_istore (lv' := [(0, .ref b), (1, .ref (q1 0)), (2, .ref (q2 0)), (3, .ref qL), (4, .int (nI (6 * 0)))]) X d_la_law_21 23 rfl (by decide) rfl rfl ?_
  refine jj_perm (ws' := mw cI cZ q2 (fun _ _ => 0) ++ (tw cI cZ q1 (fun _ _ => 0) ++ [(qL, .inl (cL, 1, .inr (.inl (fun _ => 0))))])) [33, 34, 35, 36, 37, 38, 39, 40, 41, 42, 0, 1, 2, 3, 4, 5, 6, 7, 8, 9, 10, 11, 12, 13, 14, 15, 16, 17, 18, 19, 20, 21, 22, 23, 24, 25, 26, 27, 28, 29, 30, 31, 32, 43] rfl (by decide) rfl ?_
  exact law_loop htr how X hX hbl hL hr hlk (L + 6) 0 _ _ _ (by omega) (by omega) ⟨0, 0, 0, 0, 0, 0, 0, _, iv_0⟩
end START
theorem arr_known {args : Array Value} {s : State} {ty : FieldType} (h : (Cond.arrayClass ty).before args s = true) (ht : ty = .int ∨ ty = .boolean ∨ ty = .long) : ∃ cA : ClassId, ArrOfT s cA ty ∧ va_RA s cA ty := by
  obtain ⟨cA, kA, comp, h1, h2, h3⟩ := Cond.arrayClass_spec h
  refine ⟨cA, fun n z => ⟨fun k q => (by cases q), kA, h2, comp, h3⟩, ?_⟩
  rcases ht with rfl | rfl | rfl <;> exact h1
theorem nst_in : nst_.all (fun w => decide (w ∈ tables_1) && w.onTables) = true := by decide +kernel
theorem nst_nw : ∀ w ∈ nst_, jc_nw w := by
  intro w hw
  simp only [nst_, List.mem_cons, List.not_mem_nil, or_false] at hw
  unfold jc_nw
  rcases hw with rfl | rfl | rfl | rfl | rfl | rfl | rfl <;> first | exact Or.inl ⟨_, _, _, _, rfl⟩ | exact Or.inr ⟨_, _, _, _, _, _, rfl⟩
theorem ow_in : owAll.all (fun w => !owF w || decide (w ∈ tables_1)) = true := by decide +kernel
theorem lay1_in : Cond.laysStatic Jvm.Bundle.tN owS1 Jvm.Bundle.steD ∈ tables_1 := List.mem_of_getElem? (i := 461) (by decide +kernel)
theorem lay2_in : Cond.laysStatic Jvm.Bundle.tN owS2 Jvm.Bundle.listD ∈ tables_1 := List.mem_of_getElem? (i := 463) (by decide +kernel)
theorem str_in : Cond.stringRef "TransitRows" 207 "no slip arrived" ∈ tables_1 := List.mem_of_getElem? (i := 473) (by decide +kernel)
theorem tab_args {args a' : Array Value} {s : State} {w : Cond} (hw : w.onTables = true) (h : w.before args s = true) : w.before a' s = true := by
  have h2 := Cond.onTables_vm (A := args) (A' := a') (U := s) (U' := s) s.vm w hw
  rw [State.setVm_self] at h2
  rw [← h2]
  exact h
set_option maxHeartbeats 4000000 in
theorem ow_entry {s : State} {b : Nat} (hts : ∀ w ∈ tables_1, w.before #[Value.ref b] s = true) (hgv : (Jvm.Cond.and given_1 narrow_1).before #[Value.ref b] s = true) : ∃ a0 : Nat, ow a0 (fun q => s.heap.size ≤ q) s s.heap := by
  have hs := flat_of_before _ hgv
  have hex : (Cond.exactly (.string "TransitRows" 207) "java/lang/String").before #[Value.ref b] s = true := hs _ (by decide +kernel)
  have hi1 : (Cond.isRef (.static Jvm.Bundle.tN owS1 Jvm.Bundle.steD)).before #[Value.ref b] s = true := hs _ (by decide +kernel)
  have hi2 : (Cond.isRef (.static Jvm.Bundle.tN owS2 Jvm.Bundle.listD)).before #[Value.ref b] s = true := hs _ (by decide +kernel)
  obtain ⟨a2, c, cA, kA, q1, -⟩ := Cond.exactly_spec (args := #[Value.ref b]) (first := s) (o := none) (s := s) (idx := []) (t := .string "TransitRows" 207) (cls := "java/lang/String") hex
  refine ⟨a2, fun w hw hf => ?_, vk_R.of (hts _ str_in) q1, zw_of (hts _ lay1_in) hi1 (fun a h => Nat.not_le.mpr h), zw_of (hts _ lay2_in) hi2 (fun a h => Nat.not_le.mpr h)⟩
  have h1 := List.all_eq_true.mp ow_in w hw
  rw [hf] at h1
  exact ow_args hf (hts w (by simpa using h1))
set_option maxHeartbeats 4000000 in
theorem whole_start {p : Program} {e : Env} {s : State} {m : MethodId} {below : List Frame} {meth : Method} {c : Code} (l : Launch) (htr : ∀ e, l.admits e → e.platform.stackTraces = false) {b L : Nat} {xs : Nat → Int32} (hL : L ≤ 3072) (C0 : lw_At p s m meth c b L xs) : W p l e room_1 s m #[Value.ref b] below meth c s.heap [] 0 0 (lw_Z below #[Value.ref b] s) (entryFrame m ([Value.ref b] : List Value).toArray 7) := by
  obtain ⟨hx, hb, hr, hml, hown, hts, hX, hbl, hlk, hgv⟩ := C0
  have htg : ∀ w ∈ gt_, w.before #[Value.ref b] s = true := fun w hw => hts w (List.mem_filter.mp hw).1
  have ht1 : ∀ w ∈ tables_1, w.before #[Value.ref b] s = true := fun w hw => hts w (List.mem_append_right _ hw)
  obtain ⟨a0, how⟩ := ow_entry ht1 hgv
  obtain ⟨cI, hI⟩ := arr_known (htg _ v_int) (Or.inl rfl)
  obtain ⟨cZ, hZ⟩ := arr_known (htg _ v_boolean) (Or.inr (Or.inl rfl))
  obtain ⟨cL, hLo⟩ := arr_known (htg _ v_long) (Or.inr (Or.inr rfl))
  obtain ⟨c0, i0, k0⟩ := u_known htg i_cp (htg _ z_cp)
  obtain ⟨c1, i1, k1⟩ := u_known htg i_lo (htg _ z_lo)
  obtain ⟨c2, i2, k2⟩ := u_known htg i_ld (htg _ z_ld)
  obtain ⟨c3, i3, k3⟩ := u_known htg i_pl (htg _ z_pl)
  obtain ⟨c4, i4, k4⟩ := u_known htg i_ro (htg _ z_ro)
  obtain ⟨c5, i5, k5⟩ := u_known htg i_sl (htg _ z_sl)
  obtain ⟨c6, i6, k6⟩ := u_known htg i_te (htg _ z_te)
  obtain ⟨c7, i7, k7⟩ := u_known htg i_tr (htg _ z_tr)
  obtain ⟨c8, i8, k8⟩ := u_known htg i_mo (htg _ z_mo)
  have hK : va_K ((fun k => match k with | 0 => c0 | 1 => c1 | 2 => c2 | 3 => c3 | 4 => c4 | 5 => c5 | 6 => c6 | 7 => c7 | _ => c8), (fun k => match k with | 0 => i0 | 1 => i1 | 2 => i2 | 3 => i3 | 4 => i4 | 5 => i5 | 6 => i6 | 7 => i7 | _ => i8)) cls_ [(cI, .int), (cZ, .boolean), (cL, .long)] s := by
    refine ⟨fun k q hq => ?_, fun k q hq => ?_⟩
    · have hk : k < 9 := (List.getElem?_eq_some_iff.mp hq).1
      rcases (show k = 0 ∨ k = 1 ∨ k = 2 ∨ k = 3 ∨ k = 4 ∨ k = 5 ∨ k = 6 ∨ k = 7 ∨ k = 8 by omega) with rfl | rfl | rfl | rfl | rfl | rfl | rfl | rfl | rfl
      · cases hq; exact k0
      · cases hq; exact k1
      · cases hq; exact k2
      · cases hq; exact k3
      · cases hq; exact k4
      · cases hq; exact k5
      · cases hq; exact k6
      · cases hq; exact k7
      · cases hq; exact k8
    · have hk : k < 3 := (List.getElem?_eq_some_iff.mp hq).1
      rcases (show k = 0 ∨ k = 1 ∨ k = 2 by omega) with rfl | rfl | rfl
      · cases hq; exact hI
      · cases hq; exact hZ
      · cases hq; exact hLo
  have hN : jc_N nst_ s := fun w hw => by
    have h1 := List.all_eq_true.mp nst_in w hw
    simp only [Bool.and_eq_true, decide_eq_true_eq] at h1
    exact ⟨nst_nw w hw, tab_args h1.2 (ht1 w h1.1)⟩
  have X : jc_X p s m #[Value.ref b] c b_la_law 7 gt_ "TransitRowsLaw" _ cls_ [(cI, .int), (cZ, .boolean), (cL, .long)] nst_ (fun q => s.heap.size ≤ q) := ⟨⟨hx, hb, hml, hown, htg⟩, hK, fun q h => h, hN⟩
  have key := law_start (p := p) (l := l) (e := e) (below := below) (meth := meth) htr how X hX hbl hL hr hlk
  rw [lg_entry_eq]
  exact key s.heap [] _ (fun k q h => by simp at h) ⟨fun i j p q h => by simp at h, fun k q h => by simp at h⟩ va_S.rf (lv_entry [.ref b] (n := 7) (Nat.le_of_ble_eq_true rfl))
