/-- the locals list with one place written -/
def jc_put : List (Nat × Value) → Nat → Value → List (Nat × Value)
  | [], i, v => [(i, v)]
  | (j, w) :: t, i, v => bif Nat.beq j i then (i, v) :: t.filter (fun q => !(Nat.beq q.1 i)) else (j, w) :: jc_put t i v
theorem jc_put_mem : ∀ (lv : List (Nat × Value)) (i : Nat) (v : Value) (q : Nat × Value), q ∈ jc_put lv i v → q = (i, v) ∨ (q ∈ lv ∧ q.1 ≠ i)
  | [], i, v, q, h => by
    simp only [jc_put, List.mem_singleton] at h
    exact Or.inl h
  | (j, w) :: t, i, v, q, h => by
    simp only [jc_put] at h
    cases hb : Nat.beq j i with
    | true =>
      rw [hb] at h
      simp only [cond_true, List.mem_cons, List.mem_filter] at h
      rcases h with h | ⟨h1, h2⟩
      · exact Or.inl h
      · refine Or.inr ⟨List.mem_cons_of_mem _ h1, fun e => ?_⟩
        rw [e, Nat.beq_refl] at h2
        exact absurd h2 (by decide)
    | false =>
      rw [hb] at h
      simp only [cond_false, List.mem_cons] at h
      rcases h with h | h
      · refine Or.inr ⟨by rw [h]; exact List.mem_cons_self, fun e => ?_⟩
        rw [h] at e
        simp only at e
        rw [e, Nat.beq_refl] at hb
        exact absurd hb (by decide)
      · rcases jc_put_mem t i v q h with h | ⟨h1, h2⟩
        · exact Or.inl h
        · exact Or.inr ⟨List.mem_cons_of_mem _ h1, h2⟩
theorem jc_put_has {ls : Array Slot} {nL i : Nat} {lv : List (Nat × Value)} {v : Value} (hc : lv.all (fun q => Nat.beq q.2.category 1) = true)
    (h : lv_has ls nL ((i, v) :: lv.filter (fun q => !(q.1 == i) && !(q.1 + 1 == i && q.2.category == 2)))) : lv_has ls nL (jc_put lv i v) := by
  refine ⟨h.1, h.2.1, fun q hq => ?_⟩
  rcases jc_put_mem lv i v q hq with e | ⟨h1, h2⟩
  · exact h.2.2 q (by rw [e]; exact List.mem_cons_self)
  · refine h.2.2 q (List.mem_cons_of_mem _ (List.mem_filter.mpr ⟨h1, ?_⟩))
    have h3 := Nat.eq_of_beq_eq_true (List.all_eq_true.mp hc q h1)
    simp [h2, h3]
/-- words on nest mates: they hold behind every step, but only by their own rule -/
def jc_nw (w : Cond) : Prop := (∃ (a : String) (i : Nat) (x : MethodName) (h : String), w = .methodLinkNest a i x h) ∨ ∃ (a : String) (i : Nat) (b n d h : String), w = .fieldLinkNest a i b n d h
def jc_N (nst : List Cond) (U : State) : Prop := ∀ w ∈ nst, jc_nw w ∧ va_Nw w U
theorem jc_N_warm {nst : List Cond} {s U : State} (hW : s.WarmedH U.vm) (h : jc_N nst s) : jc_N nst U := fun w hw => by
  obtain ⟨h1, h2⟩ := h w hw
  refine ⟨h1, ?_⟩
  rcases h1 with ⟨a, i, x, ho, rfl⟩ | ⟨a, i, b, n, d, ho, rfl⟩
  · exact h2.warmM hW
  · exact h2.warmF hW
theorem jc_N_same {nst : List Cond} {s U : State} (hW : s.vm = U.vm) (h : jc_N nst s) : jc_N nst U := fun w hw => by
  obtain ⟨h1, h2⟩ := h w hw
  refine ⟨h1, ?_⟩
  rcases h1 with ⟨a, i, x, ho, rfl⟩ | ⟨a, i, b, n, d, ho, rfl⟩
  · exact h2.same rfl hW
  · exact h2.same rfl hW
/-- the fixed things of a walk -/
def jc_X (p : Program) (s : State) (m : MethodId) (args : Array Value) (c : Code) (cc : ByteArray) (nL : Nat) (Ts : List Cond) (own : String) (D : va_G) (cl : List vw_C) (tys : List (ClassId × FieldType)) (nst : List Cond) (A : Nat → Prop) : Prop :=
  (p.tables.exec = Jvm.exec ∧ c.code = cc ∧ c.maxLocals = nL ∧ s.vm.findClass own = some m.cls ∧ ∀ w ∈ Ts, w.before args s = true) ∧ va_K D cl tys s ∧ (∀ q, s.heap.size ≤ q → A q) ∧ jc_N nst s
/-- from every heap that holds the world ws, with the locals lv and the stack st, at pc: it comes to Q -/
def jc_J (p : Program) (l : Launch) (e : Env) (R : Room) (s : State) (m : MethodId) (args : Array Value) (below : List Frame) (meth : Method) (c : Code) (Q : State → Prop) (D : va_G) (cl : List vw_C) (A : Nat → Prop) (nL k n pc : Nat) (lv : List (Nat × Value)) (st : List Value) (ws : va_W) : Prop :=
  ∀ (H : Heap) (locs : List Loc) (ls : Array Slot), va_P D cl ws H → va_D A ws → va_S A s.heap H locs → lv_has ls nL lv → W p l e R s m args below meth c H locs k n Q (F0 m pc ls st)
/-- the world behind a method -/
def jc_B (D : va_G) (cl : List vw_C) (tys : List (ClassId × FieldType)) (A : Nat → Prop) (u : va_W) (t : State) : Prop := va_P D cl u t.heap ∧ va_K D cl tys t ∧ va_D A u
/-- the world ahead of a method -/
def jc_P (D : va_G) (cl : List vw_C) (tys : List (ClassId × FieldType)) (nst : List Cond) (sz : Nat) (w : va_W) (U : State) : Prop := U.heap.size = sz ∧ va_P D cl w U.heap ∧ va_K D cl tys U ∧ va_D (fun _ => True) w ∧ jc_N nst U
/-- contracts over a whole world: an int (or boolean) answer; none -/
def mt_I (l : Launch) (D : va_G) (cl : List vw_C) (tys : List (ClassId × FieldType)) (nst : List Cond) (y : MethodName) (ws : List Cond) (rm : Room) (av : List Value) (w : va_W) (post : Int32 → va_W → Prop) : Prop :=
  ∀ sz : Nat, Met l y ws rm (va_Pc av (jc_P D cl tys nst sz w)) (va_Qi post (jc_B D cl tys (va_A w sz)) (va_A w sz)) rm.cells rm.slots (va_A w sz)
def mt_V (l : Launch) (D : va_G) (cl : List vw_C) (tys : List (ClassId × FieldType)) (nst : List Cond) (y : MethodName) (ws : List Cond) (rm : Room) (av : List Value) (w : va_W) (post : va_W → Prop) : Prop :=
  ∀ sz : Nat, Met l y ws rm (va_Pc av (jc_P D cl tys nst sz w)) (va_Qv post (jc_B D cl tys (va_A w sz)) (va_A w sz)) rm.cells rm.slots (va_A w sz)
section JW
variable {p : Program} {l : Launch} {e : Env} {R : Room} {s : State} {m : MethodId} {args : Array Value} {below : List Frame} {meth : Method} {c : Code} {Q : State → Prop} {cc : ByteArray} {nL : Nat} {Ts : List Cond} {own : String} {D : va_G} {cl : List vw_C} {tys : List (ClassId × FieldType)} {nst : List Cond} {A : Nat → Prop} {k n pc : Nat} {lv : List (Nat × Value)} {st : List Value} {ws : va_W}
theorem jc_P_blind {sz : Nat} {w : va_W} {av : List Value} : FrameBlind (va_Pc av (jc_P D cl tys nst sz w)) := fun a U g mk q => by
  obtain ⟨q0, q1, qP, qK, qD, qN⟩ := q
  exact ⟨q0, q1, qP, va_K.moved (u := U) (U := U.calling g mk a) (Vm.Alike.refl U.vm) qK, qD, jc_N_same (s := U) (U := U.calling g mk a) rfl qN⟩
theorem mt_I_of {y : MethodName} {maxL : Nat} {ty : FieldType} {rm : Room} {av : List Value} {w : va_W} {post : Int32 → va_W → Prop} (hy : plainName y.cls = true) (hlen : (lg_sl av).length ≤ maxL)
    (body : ∀ (p : Program) (e : Env) (s : State) (m : MethodId) (below : List Frame) (meth : Method) (c : Code) (A : Nat → Prop), jc_X p s m av.toArray c cc maxL Ts y.cls D cl tys nst A → meth.sig.returnType = some ty → meth.locks = false →
      jc_J p l e (headSpec (Cond.code y cc maxL (some ty) :: Ts) rm).room s m av.toArray below meth c (MQ below (va_Qi post (jc_B D cl tys A) A) av.toArray s rm.cells rm.slots A) D cl A maxL 0 0 0 (lv_args 0 av) [] w) : mt_I l D cl tys nst y (Cond.code y cc maxL (some ty) :: Ts) rm av w post := by
  intro sz
  refine Met.ofW (cc := cc) (maxL := maxL) (ret := some ty) hy rfl ?_
  intro p e s m args below meth c s₁ B hml hv
  obtain ⟨rfl, hsz, hP, hK, hD0, hN0⟩ := hv
  have hts := atoms_spec (ws := Cond.code y cc maxL (some ty) :: Ts) B.pre
  have hown : s.vm.findClass y.cls = some m.cls := findClass_of_methodNamed B.named
  subst hsz
  have hD := hD0.self (sz := s.heap.size)
  have hl := lv_entry av (n := maxL) hlen
  rw [lg_entry_eq]
  exact body p e s m below meth c (va_A w s.heap.size) ⟨⟨B.exec, B.bytes, hml, hown, fun w h => hts w (List.mem_cons_of_mem _ h)⟩, hK, fun q h => Or.inr h, hN0⟩ B.returns B.notSynchronized s.heap [] _ hP hD va_S.rf hl
theorem mt_V_of {y : MethodName} {maxL : Nat} {rm : Room} {av : List Value} {w : va_W} {post : va_W → Prop} (hy : plainName y.cls = true) (hlen : (lg_sl av).length ≤ maxL)
    (body : ∀ (p : Program) (e : Env) (s : State) (m : MethodId) (below : List Frame) (meth : Method) (c : Code) (A : Nat → Prop), jc_X p s m av.toArray c cc maxL Ts y.cls D cl tys nst A → meth.sig.returnType = none → meth.locks = false → meth.name = y.name →
      jc_J p l e (headSpec (Cond.code y cc maxL none :: Ts) rm).room s m av.toArray below meth c (MQ below (va_Qv post (jc_B D cl tys A) A) av.toArray s rm.cells rm.slots A) D cl A maxL 0 0 0 (lv_args 0 av) [] w) : mt_V l D cl tys nst y (Cond.code y cc maxL none :: Ts) rm av w post := by
  intro sz
  refine Met.ofW (cc := cc) (maxL := maxL) (ret := none) hy rfl ?_
  intro p e s m args below meth c s₁ B hml hv
  obtain ⟨rfl, hsz, hP, hK, hD0, hN0⟩ := hv
  have hts := atoms_spec (ws := Cond.code y cc maxL none :: Ts) B.pre
  have hown : s.vm.findClass y.cls = some m.cls := findClass_of_methodNamed B.named
  subst hsz
  have hD := hD0.self (sz := s.heap.size)
  have hl := lv_entry av (n := maxL) hlen
  rw [lg_entry_eq]
  exact body p e s m below meth c (va_A w s.heap.size) ⟨⟨B.exec, B.bytes, hml, hown, fun w h => hts w (List.mem_cons_of_mem _ h)⟩, hK, fun q h => Or.inr h, hN0⟩ B.returns B.notSynchronized (name_of_methodNamed B.named B.method).1 s.heap [] _ hP hD va_S.rf hl
theorem jj_iret {post : Int32 → va_W → Prop} (X : jc_X p s m args c cc nL Ts own D cl tys nst A) (hr : meth.sig.returnType = some .int) (hlk : meth.locks = false) {v : Int32} (d : decode cc pc = .ok (.ireturn, 1)) (hpost : post v ws) :
    jc_J p l e R s m args below meth c (MQ below (va_Qi post (jc_B D cl tys A) A) args s k n A) D cl A nL k n pc lv [.int v] ws :=
  fun H locs ls hP hD hS hl => W.iret X.1.1 X.1.2.1 hr (fun t ht hW => ⟨⟨v, ws, rfl, hpost, by rw [ht]; exact hP, va_K.moved hW.alike X.2.1, hD⟩, hS.F ht⟩) hS.2.2 d hlk
theorem jj_zret {post : Int32 → va_W → Prop} (X : jc_X p s m args c cc nL Ts own D cl tys nst A) (hr : meth.sig.returnType = some .boolean) (hlk : meth.locks = false) {v : Int32} (d : decode cc pc = .ok (.ireturn, 1)) (hn : narrow .boolean (.int v) = .int v) (hpost : post v ws) :
    jc_J p l e R s m args below meth c (MQ below (va_Qi post (jc_B D cl tys A) A) args s k n A) D cl A nL k n pc lv [.int v] ws :=
  fun H locs ls hP hD hS hl => W.zret X.1.1 X.1.2.1 hr hn (fun t ht hW => ⟨⟨v, ws, rfl, hpost, by rw [ht]; exact hP, va_K.moved hW.alike X.2.1, hD⟩, hS.F ht⟩) hS.2.2 d hlk
theorem jj_vret {post : va_W → Prop} (X : jc_X p s m args c cc nL Ts own D cl tys nst A) (hr : meth.sig.returnType = none) (hlk : meth.locks = false) (d : decode cc pc = .ok (.return_, 1)) (hpost : post ws) :
    jc_J p l e R s m args below meth c (MQ below (va_Qv post (jc_B D cl tys A) A) args s k n A) D cl A nL k n pc lv [] ws :=
  fun H locs ls hP hD hS hl => W.vret X.1.1 X.1.2.1 hr (fun t ht hW => ⟨⟨ws, rfl, hpost, by rw [ht]; exact hP, va_K.moved hW.alike X.2.1, hD⟩, hS.F ht⟩) hS.2.2 d hlk
theorem jj_widen {k' n' : Nat} (h1 : k ≤ k') (h2 : n ≤ n') (h : jc_J p l e R s m args below meth c Q D cl A nL k' n' pc lv st ws) : jc_J p l e R s m args below meth c Q D cl A nL k n pc lv st ws :=
  fun H locs ls hP hD hS hl => W.widen h1 h2 (h H locs ls hP hD hS hl)
/-- a loop: a measure that falls -/
theorem jj_loop {σ : Type} (I : σ → Prop) (μ : σ → Nat) (L : σ → List (Nat × Value)) (S : σ → List Value) (V : σ → va_W) (x0 : σ) (h0 : I x0) (eL : L x0 = lv) (eS : S x0 = st) (eV : V x0 = ws)
    (h : ∀ x, I x → (∀ y, I y → μ y < μ x → jc_J p l e R s m args below meth c Q D cl A nL k n pc (L y) (S y) (V y)) → jc_J p l e R s m args below meth c Q D cl A nL k n pc (L x) (S x) (V x)) : jc_J p l e R s m args below meth c Q D cl A nL k n pc lv st ws := by
  have key : ∀ (N : Nat) (x : σ), μ x < N → I x → jc_J p l e R s m args below meth c Q D cl A nL k n pc (L x) (S x) (V x) := by
    intro N
    induction N with
    | zero => intro x hx; exact absurd hx (Nat.not_lt_zero _)
    | succ N ih => intro x hx hI; exact h x hI (fun y hy hm => ih y (by omega) hy)
  subst eL; subst eS; subst eV
  exact key (μ x0 + 1) x0 (Nat.lt_succ_self _) h0
/-- a place where roads meet -/
theorem jj_cut {σ : Type} (I : σ → Prop) (pc' : Nat) (L : σ → List (Nat × Value)) (S : σ → List Value) (V : σ → va_W) (h : ∀ x, I x → jc_J p l e R s m args below meth c Q D cl A nL k n pc' (L x) (S x) (V x))
    (g : (∀ x, I x → jc_J p l e R s m args below meth c Q D cl A nL k n pc' (L x) (S x) (V x)) → jc_J p l e R s m args below meth c Q D cl A nL k n pc lv st ws) : jc_J p l e R s m args below meth c Q D cl A nL k n pc lv st ws := g h
/-- a computed number gets a name -/
theorem jj_top {x : Int32} (h : ∀ y : Int32, y = x → jc_J p l e R s m args below meth c Q D cl A nL k n pc lv (.int y :: st) ws) : jc_J p l e R s m args below meth c Q D cl A nL k n pc lv (.int x :: st) ws := h x rfl
theorem jj_topv {x y : Int32} (e0 : x = y) (h : jc_J p l e R s m args below meth c Q D cl A nL k n pc lv (.int y :: st) ws) : jc_J p l e R s m args below meth c Q D cl A nL k n pc lv (.int x :: st) ws := by rw [e0]; exact h
theorem jj_lvs {lv' : List (Nat × Value)} (hs : ∀ q ∈ lv', q ∈ lv) (h : jc_J p l e R s m args below meth c Q D cl A nL k n pc lv' st ws) : jc_J p l e R s m args below meth c Q D cl A nL k n pc lv st ws := fun H locs ls hP hD hS hl => h H locs ls hP hD hS ⟨hl.1, hl.2.1, fun q hq => hl.2.2 q (hs q hq)⟩
theorem jj_lve {lv' : List (Nat × Value)} (hs : lv = lv') (h : jc_J p l e R s m args below meth c Q D cl A nL k n pc lv' st ws) : jc_J p l e R s m args below meth c Q D cl A nL k n pc lv st ws := by rw [hs]; exact h
theorem jj_wse {ws' : va_W} (hs : ws = ws') (h : jc_J p l e R s m args below meth c Q D cl A nL k n pc lv st ws') : jc_J p l e R s m args below meth c Q D cl A nL k n pc lv st ws := by rw [hs]; exact h
theorem jj_iconst (X : jc_X p s m args c cc nL Ts own D cl tys nst A) {i : Int} {v : Int32} (d : decode cc pc = .ok (.iconst i, 1)) (pc' : Nat) (hp : pc + 1 = pc') (hv : Int32.ofInt i = v) (h : jc_J p l e R s m args below meth c Q D cl A nL k n pc' lv (.int v :: st) ws) : jc_J p l e R s m args below meth c Q D cl A nL k n pc lv st ws := by
  subst hp
  exact fun H locs ls hP hD hS hl => lv_iconst X.1.1 X.1.2.1 d hv (h H locs ls hP hD hS hl)
theorem jj_bipush (X : jc_X p s m args c cc nL Ts own D cl tys nst A) {i : Int} {v : Int32} (d : decode cc pc = .ok (.bipush i, 2)) (pc' : Nat) (hp : pc + 2 = pc') (hv : (Int8.ofInt i).toInt32 = v) (h : jc_J p l e R s m args below meth c Q D cl A nL k n pc' lv (.int v :: st) ws) : jc_J p l e R s m args below meth c Q D cl A nL k n pc lv st ws := by
  subst hp
  exact fun H locs ls hP hD hS hl => lv_bipush X.1.1 X.1.2.1 d hv (h H locs ls hP hD hS hl)
theorem jj_sipush (X : jc_X p s m args c cc nL Ts own D cl tys nst A) {i : Int} {v : Int32} (d : decode cc pc = .ok (.sipush i, 3)) (pc' : Nat) (hp : pc + 3 = pc') (hv : (Int16.ofInt i).toInt32 = v) (h : jc_J p l e R s m args below meth c Q D cl A nL k n pc' lv (.int v :: st) ws) : jc_J p l e R s m args below meth c Q D cl A nL k n pc lv st ws := by
  subst hp
  exact fun H locs ls hP hD hS hl => lv_sipush X.1.1 X.1.2.1 d hv (h H locs ls hP hD hS hl)
theorem jj_ldc (X : jc_X p s m args c cc nL Ts own D cl tys nst A) {i : Nat} {v : Int32} (d : decode cc pc = .ok (.ldc i, 2)) (pc' : Nat) (hp : pc + 2 = pc') (hc : Jvm.Cond.constant own i v ∈ Ts) (h : jc_J p l e R s m args below meth c Q D cl A nL k n pc' lv (.int v :: st) ws) : jc_J p l e R s m args below meth c Q D cl A nL k n pc lv st ws := by
  subst hp
  exact fun H locs ls hP hD hS hl => lv_ldc X.1.1 X.1.2.1 X.1.2.2.2.1 (X.1.2.2.2.2 _ hc) d (h H locs ls hP hD hS hl)
theorem jj_iload_n (X : jc_X p s m args c cc nL Ts own D cl tys nst A) {f : Fin 4} {x : Int32} (d : decode cc pc = .ok (.iload_n f, 1)) (pc' : Nat) (hp : pc + 1 = pc') (j : Nat) (hj : lv[j]? = some ((f : Nat), .int x)) (h : jc_J p l e R s m args below meth c Q D cl A nL k n pc' lv (.int x :: st) ws) : jc_J p l e R s m args below meth c Q D cl A nL k n pc lv st ws := by
  subst hp
  exact fun H locs ls hP hD hS hl => lv_iload_n X.1.1 X.1.2.1 d rfl (lv_at hl j hj) (h H locs ls hP hD hS hl)
theorem jj_iload (X : jc_X p s m args c cc nL Ts own D cl tys nst A) {i : Nat} {x : Int32} (d : decode cc pc = .ok (.iload i, 2)) (pc' : Nat) (hp : pc + 2 = pc') (j : Nat) (hj : lv[j]? = some (i, .int x)) (h : jc_J p l e R s m args below meth c Q D cl A nL k n pc' lv (.int x :: st) ws) : jc_J p l e R s m args below meth c Q D cl A nL k n pc lv st ws := by
  subst hp
  exact fun H locs ls hP hD hS hl => lv_iload X.1.1 X.1.2.1 d (lv_at hl j hj) (h H locs ls hP hD hS hl)
theorem jj_aload_n (X : jc_X p s m args c cc nL Ts own D cl tys nst A) {f : Fin 4} {x : Nat} (d : decode cc pc = .ok (.aload_n f, 1)) (pc' : Nat) (hp : pc + 1 = pc') (j : Nat) (hj : lv[j]? = some ((f : Nat), .ref x)) (h : jc_J p l e R s m args below meth c Q D cl A nL k n pc' lv (.ref x :: st) ws) : jc_J p l e R s m args below meth c Q D cl A nL k n pc lv st ws := by
  subst hp
  exact fun H locs ls hP hD hS hl => lv_aload_n X.1.1 X.1.2.1 d rfl (lv_at hl j hj) (h H locs ls hP hD hS hl)
theorem jj_aload (X : jc_X p s m args c cc nL Ts own D cl tys nst A) {i : Nat} {x : Nat} (d : decode cc pc = .ok (.aload i, 2)) (pc' : Nat) (hp : pc + 2 = pc') (j : Nat) (hj : lv[j]? = some (i, .ref x)) (h : jc_J p l e R s m args below meth c Q D cl A nL k n pc' lv (.ref x :: st) ws) : jc_J p l e R s m args below meth c Q D cl A nL k n pc lv st ws := by
  subst hp
  exact fun H locs ls hP hD hS hl => lv_aload X.1.1 X.1.2.1 d (lv_at hl j hj) (h H locs ls hP hD hS hl)
theorem jj_istore_n (X : jc_X p s m args c cc nL Ts own D cl tys nst A) {f : Fin 4} {x : Int32} {lv' : List (Nat × Value)} (d : decode cc pc = .ok (.istore_n f, 1)) (pc' : Nat) (hp : pc + 1 = pc') (hn : (f : Nat) < nL) (hc : lv.all (fun q => Nat.beq q.2.category 1) = true) (hl' : jc_put lv (f : Nat) (.int x) = lv') (h : jc_J p l e R s m args below meth c Q D cl A nL k n pc' lv' st ws) : jc_J p l e R s m args below meth c Q D cl A nL k n pc lv (.int x :: st) ws := by
  subst hp; subst hl'
  exact fun H locs ls hP hD hS hl => lv_istore_n X.1.1 X.1.2.1 d rfl hl hn rfl (fun ls' hl' => h H locs ls' hP hD hS (jc_put_has hc hl'))
theorem jj_istore (X : jc_X p s m args c cc nL Ts own D cl tys nst A) {i : Nat} {x : Int32} {lv' : List (Nat × Value)} (d : decode cc pc = .ok (.istore i, 2)) (pc' : Nat) (hp : pc + 2 = pc') (hn : i < nL) (hc : lv.all (fun q => Nat.beq q.2.category 1) = true) (hl' : jc_put lv i (.int x) = lv') (h : jc_J p l e R s m args below meth c Q D cl A nL k n pc' lv' st ws) : jc_J p l e R s m args below meth c Q D cl A nL k n pc lv (.int x :: st) ws := by
  subst hp; subst hl'
  exact fun H locs ls hP hD hS hl => lv_istore X.1.1 X.1.2.1 d hl hn rfl (fun ls' hl' => h H locs ls' hP hD hS (jc_put_has hc hl'))
theorem jj_astore_n (X : jc_X p s m args c cc nL Ts own D cl tys nst A) {f : Fin 4} {x : Nat} {lv' : List (Nat × Value)} (d : decode cc pc = .ok (.astore_n f, 1)) (pc' : Nat) (hp : pc + 1 = pc') (hn : (f : Nat) < nL) (hc : lv.all (fun q => Nat.beq q.2.category 1) = true) (hl' : jc_put lv (f : Nat) (.ref x) = lv') (h : jc_J p l e R s m args below meth c Q D cl A nL k n pc' lv' st ws) : jc_J p l e R s m args below meth c Q D cl A nL k n pc lv (.ref x :: st) ws := by
  subst hp; subst hl'
  exact fun H locs ls hP hD hS hl => lv_astore_n X.1.1 X.1.2.1 d rfl hl hn rfl (fun ls' hl' => h H locs ls' hP hD hS (jc_put_has hc hl'))
theorem jj_astore (X : jc_X p s m args c cc nL Ts own D cl tys nst A) {i : Nat} {x : Nat} {lv' : List (Nat × Value)} (d : decode cc pc = .ok (.astore i, 2)) (pc' : Nat) (hp : pc + 2 = pc') (hn : i < nL) (hc : lv.all (fun q => Nat.beq q.2.category 1) = true) (hl' : jc_put lv i (.ref x) = lv') (h : jc_J p l e R s m args below meth c Q D cl A nL k n pc' lv' st ws) : jc_J p l e R s m args below meth c Q D cl A nL k n pc lv (.ref x :: st) ws := by
  subst hp; subst hl'
  exact fun H locs ls hP hD hS hl => lv_astore X.1.1 X.1.2.1 d hl hn rfl (fun ls' hl' => h H locs ls' hP hD hS (jc_put_has hc hl'))
theorem jj_iinc (X : jc_X p s m args c cc nL Ts own D cl tys nst A) {i : Nat} {z : Int} {x v : Int32} {lv' : List (Nat × Value)} (d : decode cc pc = .ok (.iinc i z, 3)) (pc' : Nat) (hp : pc + 3 = pc') (j : Nat) (hj : lv[j]? = some (i, .int x)) (hv : x + Int32.ofInt z = v) (hn : i < nL) (hc : lv.all (fun q => Nat.beq q.2.category 1) = true) (hl' : jc_put lv i (.int v) = lv') (h : jc_J p l e R s m args below meth c Q D cl A nL k n pc' lv' st ws) : jc_J p l e R s m args below meth c Q D cl A nL k n pc lv st ws := by
  subst hp; subst hl'
  exact fun H locs ls hP hD hS hl => lv_iinc X.1.1 X.1.2.1 d hl hj hv hn rfl (fun ls' hl' => h H locs ls' hP hD hS (jc_put_has hc hl'))
theorem jj_iadd (X : jc_X p s m args c cc nL Ts own D cl tys nst A) {x y : Int32} (d : decode cc pc = .ok (.iadd, 1)) (pc' : Nat) (hp : pc + 1 = pc') (h : jc_J p l e R s m args below meth c Q D cl A nL k n pc' lv (.int (x + y) :: st) ws) : jc_J p l e R s m args below meth c Q D cl A nL k n pc lv (.int y :: .int x :: st) ws := by
  subst hp
  exact fun H locs ls hP hD hS hl => lv_iadd X.1.1 X.1.2.1 d (h H locs ls hP hD hS hl)
theorem jj_isub (X : jc_X p s m args c cc nL Ts own D cl tys nst A) {x y : Int32} (d : decode cc pc = .ok (.isub, 1)) (pc' : Nat) (hp : pc + 1 = pc') (h : jc_J p l e R s m args below meth c Q D cl A nL k n pc' lv (.int (x - y) :: st) ws) : jc_J p l e R s m args below meth c Q D cl A nL k n pc lv (.int y :: .int x :: st) ws := by
  subst hp
  exact fun H locs ls hP hD hS hl => lv_isub X.1.1 X.1.2.1 d (h H locs ls hP hD hS hl)
theorem jj_imul (X : jc_X p s m args c cc nL Ts own D cl tys nst A) {x y : Int32} (d : decode cc pc = .ok (.imul, 1)) (pc' : Nat) (hp : pc + 1 = pc') (h : jc_J p l e R s m args below meth c Q D cl A nL k n pc' lv (.int (x * y) :: st) ws) : jc_J p l e R s m args below meth c Q D cl A nL k n pc lv (.int y :: .int x :: st) ws := by
  subst hp
  exact fun H locs ls hP hD hS hl => lv_imul X.1.1 X.1.2.1 d (h H locs ls hP hD hS hl)
theorem jj_iand (X : jc_X p s m args c cc nL Ts own D cl tys nst A) {x y : Int32} (d : decode cc pc = .ok (.iand, 1)) (pc' : Nat) (hp : pc + 1 = pc') (h : jc_J p l e R s m args below meth c Q D cl A nL k n pc' lv (.int (x &&& y) :: st) ws) : jc_J p l e R s m args below meth c Q D cl A nL k n pc lv (.int y :: .int x :: st) ws := by
  subst hp
  exact fun H locs ls hP hD hS hl => lv_iand X.1.1 X.1.2.1 d (h H locs ls hP hD hS hl)
theorem jj_ior (X : jc_X p s m args c cc nL Ts own D cl tys nst A) {x y : Int32} (d : decode cc pc = .ok (.ior, 1)) (pc' : Nat) (hp : pc + 1 = pc') (h : jc_J p l e R s m args below meth c Q D cl A nL k n pc' lv (.int (x ||| y) :: st) ws) : jc_J p l e R s m args below meth c Q D cl A nL k n pc lv (.int y :: .int x :: st) ws := by
  subst hp
  exact fun H locs ls hP hD hS hl => lv_ior X.1.1 X.1.2.1 d (h H locs ls hP hD hS hl)
theorem jj_ixor (X : jc_X p s m args c cc nL Ts own D cl tys nst A) {x y : Int32} (d : decode cc pc = .ok (.ixor, 1)) (pc' : Nat) (hp : pc + 1 = pc') (h : jc_J p l e R s m args below meth c Q D cl A nL k n pc' lv (.int (x ^^^ y) :: st) ws) : jc_J p l e R s m args below meth c Q D cl A nL k n pc lv (.int y :: .int x :: st) ws := by
  subst hp
  exact fun H locs ls hP hD hS hl => lv_ixor X.1.1 X.1.2.1 d (h H locs ls hP hD hS hl)
theorem jj_ishl (X : jc_X p s m args c cc nL Ts own D cl tys nst A) {x y : Int32} (d : decode cc pc = .ok (.ishl, 1)) (pc' : Nat) (hp : pc + 1 = pc') (h : jc_J p l e R s m args below meth c Q D cl A nL k n pc' lv (.int (x <<< (y &&& 31)) :: st) ws) : jc_J p l e R s m args below meth c Q D cl A nL k n pc lv (.int y :: .int x :: st) ws := by
  subst hp
  exact fun H locs ls hP hD hS hl => lv_ishl X.1.1 X.1.2.1 d (h H locs ls hP hD hS hl)
theorem jj_ishr (X : jc_X p s m args c cc nL Ts own D cl tys nst A) {x y : Int32} (d : decode cc pc = .ok (.ishr, 1)) (pc' : Nat) (hp : pc + 1 = pc') (h : jc_J p l e R s m args below meth c Q D cl A nL k n pc' lv (.int (x >>> (y &&& 31)) :: st) ws) : jc_J p l e R s m args below meth c Q D cl A nL k n pc lv (.int y :: .int x :: st) ws := by
  subst hp
  exact fun H locs ls hP hD hS hl => lv_ishr X.1.1 X.1.2.1 d (h H locs ls hP hD hS hl)
theorem jj_idiv (X : jc_X p s m args c cc nL Ts own D cl tys nst A) {x y : Int32} (d : decode cc pc = .ok (.idiv, 1)) (pc' : Nat) (hp : pc + 1 = pc') (hne : ¬ y = 0) (h : jc_J p l e R s m args below meth c Q D cl A nL k n pc' lv (.int (x / y) :: st) ws) : jc_J p l e R s m args below meth c Q D cl A nL k n pc lv (.int y :: .int x :: st) ws := by
  subst hp
  exact fun H locs ls hP hD hS hl => lv_idiv X.1.1 X.1.2.1 d hne (h H locs ls hP hD hS hl)
theorem jj_irem (X : jc_X p s m args c cc nL Ts own D cl tys nst A) {x y : Int32} (d : decode cc pc = .ok (.irem, 1)) (pc' : Nat) (hp : pc + 1 = pc') (hne : ¬ y = 0) (h : jc_J p l e R s m args below meth c Q D cl A nL k n pc' lv (.int (x - x / y * y) :: st) ws) : jc_J p l e R s m args below meth c Q D cl A nL k n pc lv (.int y :: .int x :: st) ws := by
  subst hp
  exact fun H locs ls hP hD hS hl => lv_irem X.1.1 X.1.2.1 d hne (h H locs ls hP hD hS hl)
theorem jj_ineg (X : jc_X p s m args c cc nL Ts own D cl tys nst A) {x : Int32} (d : decode cc pc = .ok (.ineg, 1)) (pc' : Nat) (hp : pc + 1 = pc') (h : jc_J p l e R s m args below meth c Q D cl A nL k n pc' lv (.int (-x) :: st) ws) : jc_J p l e R s m args below meth c Q D cl A nL k n pc lv (.int x :: st) ws := by
  subst hp
  exact fun H locs ls hP hD hS hl => lv_ineg X.1.1 X.1.2.1 d (h H locs ls hP hD hS hl)
theorem jj_dup (X : jc_X p s m args c cc nL Ts own D cl tys nst A) {v : Value} (d : decode cc pc = .ok (.dup, 1)) (pc' : Nat) (hp : pc + 1 = pc') (hv : v.category = 1) (h : jc_J p l e R s m args below meth c Q D cl A nL k n pc' lv (v :: v :: st) ws) : jc_J p l e R s m args below meth c Q D cl A nL k n pc lv (v :: st) ws := by
  subst hp
  exact fun H locs ls hP hD hS hl => lv_dup X.1.1 X.1.2.1 d hv (h H locs ls hP hD hS hl)
theorem jj_pop (X : jc_X p s m args c cc nL Ts own D cl tys nst A) {v : Value} (d : decode cc pc = .ok (.pop, 1)) (pc' : Nat) (hp : pc + 1 = pc') (hv : v.category = 1) (h : jc_J p l e R s m args below meth c Q D cl A nL k n pc' lv st ws) : jc_J p l e R s m args below meth c Q D cl A nL k n pc lv (v :: st) ws := by
  subst hp
  exact fun H locs ls hP hD hS hl => lv_pop X.1.1 X.1.2.1 d hv (h H locs ls hP hD hS hl)
theorem jj_dup_x1 (X : jc_X p s m args c cc nL Ts own D cl tys nst A) {v w : Value} (d : decode cc pc = .ok (.dup_x1, 1)) (pc' : Nat) (hp : pc + 1 = pc') (hv : v.category = 1) (hw : w.category = 1) (h : jc_J p l e R s m args below meth c Q D cl A nL k n pc' lv (v :: w :: v :: st) ws) : jc_J p l e R s m args below meth c Q D cl A nL k n pc lv (v :: w :: st) ws := by
  subst hp
  exact fun H locs ls hP hD hS hl => lv_dup_x1 X.1.1 X.1.2.1 d hv hw (h H locs ls hP hD hS hl)
theorem jj_dup_x2 (X : jc_X p s m args c cc nL Ts own D cl tys nst A) {v w u : Value} (d : decode cc pc = .ok (.dup_x2, 1)) (pc' : Nat) (hp : pc + 1 = pc') (hv : v.category = 1) (hw : w.category = 1) (hu : u.category = 1) (h : jc_J p l e R s m args below meth c Q D cl A nL k n pc' lv (v :: w :: u :: v :: st) ws) : jc_J p l e R s m args below meth c Q D cl A nL k n pc lv (v :: w :: u :: st) ws := by
  subst hp
  exact fun H locs ls hP hD hS hl => lv_dup_x2 X.1.1 X.1.2.1 d hv hw hu (h H locs ls hP hD hS hl)
theorem jj_dup2 (X : jc_X p s m args c cc nL Ts own D cl tys nst A) {v w : Value} (d : decode cc pc = .ok (.dup2, 1)) (pc' : Nat) (hp : pc + 1 = pc') (hv : v.category = 1) (hw : w.category = 1) (h : jc_J p l e R s m args below meth c Q D cl A nL k n pc' lv (v :: w :: v :: w :: st) ws) : jc_J p l e R s m args below meth c Q D cl A nL k n pc lv (v :: w :: st) ws := by
  subst hp
  exact fun H locs ls hP hD hS hl => lv_dup2_11 X.1.1 X.1.2.1 d hv hw (h H locs ls hP hD hS hl)
theorem jj_if_eq (X : jc_X p s m args c cc nL Ts own D cl tys nst A) {x : Int32} {off : Int} (d : decode cc pc = .ok (.ifCond .eq off, 3)) (tgt pc' : Nat) (ht : (pc : Int) + off = (tgt : Int)) (hp : pc + 3 = pc') (kt : x = 0 → jc_J p l e R s m args below meth c Q D cl A nL k n tgt lv st ws) (kf : ¬ x = 0 → jc_J p l e R s m args below meth c Q D cl A nL k n pc' lv st ws) : jc_J p l e R s m args below meth c Q D cl A nL k n pc lv (.int x :: st) ws := by
  subst hp
  exact fun H locs ls hP hD hS hl => lv_if_eq X.1.1 X.1.2.1 d ht (fun q => kt q H locs ls hP hD hS hl) (fun q => kf q H locs ls hP hD hS hl)
theorem jj_icmp_eq (X : jc_X p s m args c cc nL Ts own D cl tys nst A) {x y : Int32} {off : Int} (d : decode cc pc = .ok (.if_icmp .eq off, 3)) (tgt pc' : Nat) (ht : (pc : Int) + off = (tgt : Int)) (hp : pc + 3 = pc') (kt : x = y → jc_J p l e R s m args below meth c Q D cl A nL k n tgt lv st ws) (kf : ¬ x = y → jc_J p l e R s m args below meth c Q D cl A nL k n pc' lv st ws) : jc_J p l e R s m args below meth c Q D cl A nL k n pc lv (.int y :: .int x :: st) ws := by
  subst hp
  exact fun H locs ls hP hD hS hl => lv_icmp_eq X.1.1 X.1.2.1 d ht (fun q => kt q H locs ls hP hD hS hl) (fun q => kf q H locs ls hP hD hS hl)
theorem jj_if_ne (X : jc_X p s m args c cc nL Ts own D cl tys nst A) {x : Int32} {off : Int} (d : decode cc pc = .ok (.ifCond .ne off, 3)) (tgt pc' : Nat) (ht : (pc : Int) + off = (tgt : Int)) (hp : pc + 3 = pc') (kt : ¬ x = 0 → jc_J p l e R s m args below meth c Q D cl A nL k n tgt lv st ws) (kf : x = 0 → jc_J p l e R s m args below meth c Q D cl A nL k n pc' lv st ws) : jc_J p l e R s m args below meth c Q D cl A nL k n pc lv (.int x :: st) ws := by
  subst hp
  exact fun H locs ls hP hD hS hl => lv_if_ne X.1.1 X.1.2.1 d ht (fun q => kt q H locs ls hP hD hS hl) (fun q => kf q H locs ls hP hD hS hl)
theorem jj_icmp_ne (X : jc_X p s m args c cc nL Ts own D cl tys nst A) {x y : Int32} {off : Int} (d : decode cc pc = .ok (.if_icmp .ne off, 3)) (tgt pc' : Nat) (ht : (pc : Int) + off = (tgt : Int)) (hp : pc + 3 = pc') (kt : ¬ x = y → jc_J p l e R s m args below meth c Q D cl A nL k n tgt lv st ws) (kf : x = y → jc_J p l e R s m args below meth c Q D cl A nL k n pc' lv st ws) : jc_J p l e R s m args below meth c Q D cl A nL k n pc lv (.int y :: .int x :: st) ws := by
  subst hp
  exact fun H locs ls hP hD hS hl => lv_icmp_ne X.1.1 X.1.2.1 d ht (fun q => kt q H locs ls hP hD hS hl) (fun q => kf q H locs ls hP hD hS hl)
theorem jj_if_lt (X : jc_X p s m args c cc nL Ts own D cl tys nst A) {x : Int32} {off : Int} (d : decode cc pc = .ok (.ifCond .lt off, 3)) (tgt pc' : Nat) (ht : (pc : Int) + off = (tgt : Int)) (hp : pc + 3 = pc') (kt : x < 0 → jc_J p l e R s m args below meth c Q D cl A nL k n tgt lv st ws) (kf : ¬ x < 0 → jc_J p l e R s m args below meth c Q D cl A nL k n pc' lv st ws) : jc_J p l e R s m args below meth c Q D cl A nL k n pc lv (.int x :: st) ws := by
  subst hp
  exact fun H locs ls hP hD hS hl => lv_if_lt X.1.1 X.1.2.1 d ht (fun q => kt q H locs ls hP hD hS hl) (fun q => kf q H locs ls hP hD hS hl)
theorem jj_icmp_lt (X : jc_X p s m args c cc nL Ts own D cl tys nst A) {x y : Int32} {off : Int} (d : decode cc pc = .ok (.if_icmp .lt off, 3)) (tgt pc' : Nat) (ht : (pc : Int) + off = (tgt : Int)) (hp : pc + 3 = pc') (kt : x < y → jc_J p l e R s m args below meth c Q D cl A nL k n tgt lv st ws) (kf : ¬ x < y → jc_J p l e R s m args below meth c Q D cl A nL k n pc' lv st ws) : jc_J p l e R s m args below meth c Q D cl A nL k n pc lv (.int y :: .int x :: st) ws := by
  subst hp
  exact fun H locs ls hP hD hS hl => lv_icmp_lt X.1.1 X.1.2.1 d ht (fun q => kt q H locs ls hP hD hS hl) (fun q => kf q H locs ls hP hD hS hl)
theorem jj_if_ge (X : jc_X p s m args c cc nL Ts own D cl tys nst A) {x : Int32} {off : Int} (d : decode cc pc = .ok (.ifCond .ge off, 3)) (tgt pc' : Nat) (ht : (pc : Int) + off = (tgt : Int)) (hp : pc + 3 = pc') (kt : 0 ≤ x → jc_J p l e R s m args below meth c Q D cl A nL k n tgt lv st ws) (kf : ¬ 0 ≤ x → jc_J p l e R s m args below meth c Q D cl A nL k n pc' lv st ws) : jc_J p l e R s m args below meth c Q D cl A nL k n pc lv (.int x :: st) ws := by
  subst hp
  exact fun H locs ls hP hD hS hl => lv_if_ge X.1.1 X.1.2.1 d ht (fun q => kt q H locs ls hP hD hS hl) (fun q => kf q H locs ls hP hD hS hl)
theorem jj_icmp_ge (X : jc_X p s m args c cc nL Ts own D cl tys nst A) {x y : Int32} {off : Int} (d : decode cc pc = .ok (.if_icmp .ge off, 3)) (tgt pc' : Nat) (ht : (pc : Int) + off = (tgt : Int)) (hp : pc + 3 = pc') (kt : y ≤ x → jc_J p l e R s m args below meth c Q D cl A nL k n tgt lv st ws) (kf : ¬ y ≤ x → jc_J p l e R s m args below meth c Q D cl A nL k n pc' lv st ws) : jc_J p l e R s m args below meth c Q D cl A nL k n pc lv (.int y :: .int x :: st) ws := by
  subst hp
  exact fun H locs ls hP hD hS hl => lv_icmp_ge X.1.1 X.1.2.1 d ht (fun q => kt q H locs ls hP hD hS hl) (fun q => kf q H locs ls hP hD hS hl)
theorem jj_if_gt (X : jc_X p s m args c cc nL Ts own D cl tys nst A) {x : Int32} {off : Int} (d : decode cc pc = .ok (.ifCond .gt off, 3)) (tgt pc' : Nat) (ht : (pc : Int) + off = (tgt : Int)) (hp : pc + 3 = pc') (kt : 0 < x → jc_J p l e R s m args below meth c Q D cl A nL k n tgt lv st ws) (kf : ¬ 0 < x → jc_J p l e R s m args below meth c Q D cl A nL k n pc' lv st ws) : jc_J p l e R s m args below meth c Q D cl A nL k n pc lv (.int x :: st) ws := by
  subst hp
  exact fun H locs ls hP hD hS hl => lv_if_gt X.1.1 X.1.2.1 d ht (fun q => kt q H locs ls hP hD hS hl) (fun q => kf q H locs ls hP hD hS hl)
theorem jj_icmp_gt (X : jc_X p s m args c cc nL Ts own D cl tys nst A) {x y : Int32} {off : Int} (d : decode cc pc = .ok (.if_icmp .gt off, 3)) (tgt pc' : Nat) (ht : (pc : Int) + off = (tgt : Int)) (hp : pc + 3 = pc') (kt : y < x → jc_J p l e R s m args below meth c Q D cl A nL k n tgt lv st ws) (kf : ¬ y < x → jc_J p l e R s m args below meth c Q D cl A nL k n pc' lv st ws) : jc_J p l e R s m args below meth c Q D cl A nL k n pc lv (.int y :: .int x :: st) ws := by
  subst hp
  exact fun H locs ls hP hD hS hl => lv_icmp_gt X.1.1 X.1.2.1 d ht (fun q => kt q H locs ls hP hD hS hl) (fun q => kf q H locs ls hP hD hS hl)
theorem jj_if_le (X : jc_X p s m args c cc nL Ts own D cl tys nst A) {x : Int32} {off : Int} (d : decode cc pc = .ok (.ifCond .le off, 3)) (tgt pc' : Nat) (ht : (pc : Int) + off = (tgt : Int)) (hp : pc + 3 = pc') (kt : x ≤ 0 → jc_J p l e R s m args below meth c Q D cl A nL k n tgt lv st ws) (kf : ¬ x ≤ 0 → jc_J p l e R s m args below meth c Q D cl A nL k n pc' lv st ws) : jc_J p l e R s m args below meth c Q D cl A nL k n pc lv (.int x :: st) ws := by
  subst hp
  exact fun H locs ls hP hD hS hl => lv_if_le X.1.1 X.1.2.1 d ht (fun q => kt q H locs ls hP hD hS hl) (fun q => kf q H locs ls hP hD hS hl)
theorem jj_icmp_le (X : jc_X p s m args c cc nL Ts own D cl tys nst A) {x y : Int32} {off : Int} (d : decode cc pc = .ok (.if_icmp .le off, 3)) (tgt pc' : Nat) (ht : (pc : Int) + off = (tgt : Int)) (hp : pc + 3 = pc') (kt : x ≤ y → jc_J p l e R s m args below meth c Q D cl A nL k n tgt lv st ws) (kf : ¬ x ≤ y → jc_J p l e R s m args below meth c Q D cl A nL k n pc' lv st ws) : jc_J p l e R s m args below meth c Q D cl A nL k n pc lv (.int y :: .int x :: st) ws := by
  subst hp
  exact fun H locs ls hP hD hS hl => lv_icmp_le X.1.1 X.1.2.1 d ht (fun q => kt q H locs ls hP hD hS hl) (fun q => kf q H locs ls hP hD hS hl)
theorem jj_goto (X : jc_X p s m args c cc nL Ts own D cl tys nst A) {off : Int} (d : decode cc pc = .ok (.goto off, 3)) (tgt : Nat) (ht : (pc : Int) + off = (tgt : Int)) (h : jc_J p l e R s m args below meth c Q D cl A nL k n tgt lv st ws) : jc_J p l e R s m args below meth c Q D cl A nL k n pc lv st ws :=
  fun H locs ls hP hD hS hl => lv_goto X.1.1 X.1.2.1 d ht (h H locs ls hP hD hS hl)
theorem jj_tableIn (X : jc_X p s m args c cc nL Ts own D cl tys nst A) {dflt lo hi : Int} {offs : Array Int} {len : Nat} {x : Int32} {off : Int} (d : decode cc pc = .ok (.tableswitch dflt lo hi offs, len)) (tgt : Nat) (h1 : ¬ x.toInt < lo) (h2 : ¬ hi < x.toInt) (ho : offs[(x.toInt - lo).toNat]? = some off) (ht : (pc : Int) + off = (tgt : Int)) (h : jc_J p l e R s m args below meth c Q D cl A nL k n tgt lv st ws) : jc_J p l e R s m args below meth c Q D cl A nL k n pc lv (.int x :: st) ws :=
  fun H locs ls hP hD hS hl => lv_tableIn X.1.1 X.1.2.1 d h1 h2 ho ht (h H locs ls hP hD hS hl)
theorem jj_tableOut (X : jc_X p s m args c cc nL Ts own D cl tys nst A) {dflt lo hi : Int} {offs : Array Int} {len : Nat} {x : Int32} (d : decode cc pc = .ok (.tableswitch dflt lo hi offs, len)) (tgt : Nat) (h1 : x.toInt < lo ∨ hi < x.toInt) (ht : (pc : Int) + dflt = (tgt : Int)) (h : jc_J p l e R s m args below meth c Q D cl A nL k n tgt lv st ws) : jc_J p l e R s m args below meth c Q D cl A nL k n pc lv (.int x :: st) ws :=
  fun H locs ls hP hD hS hl => lv_tableOut X.1.1 X.1.2.1 d h1 ht (h H locs ls hP hD hS hl)
theorem jj_lookup (X : jc_X p s m args c cc nL Ts own D cl tys nst A) {dflt : Int} {ps : Array (Int × Int)} {len : Nat} {x : Int32} {off : Int} (d : decode cc pc = .ok (.lookupswitch dflt ps, len)) (tgt : Nat) (hs : (ps.toList.zip (ps.toList.drop 1)).all (fun (a, next) => a.1 < next.1) = true) (ho : Op.lookupswitch.offset ps.toList dflt x.toInt = off) (ht : (pc : Int) + off = (tgt : Int)) (h : jc_J p l e R s m args below meth c Q D cl A nL k n tgt lv st ws) : jc_J p l e R s m args below meth c Q D cl A nL k n pc lv (.int x :: st) ws :=
  fun H locs ls hP hD hS hl => lv_lookup X.1.1 X.1.2.1 d hs ho ht (h H locs ls hP hD hS hl)
theorem jj_get (X : jc_X p s m args c cc nL Ts own D cl tys nst A) {ref C : String} {T : u_T} {N ci index a : Nat} {fs : List Value} {v : Value} (d : decode cc pc = .ok (.getfield index, 3)) (pc' : Nat) (hp : pc + 3 = pc') (hin : ∀ w ∈ u_ws C T N, w ∈ Ts) (f : Nat) (hlink : Cond.fieldLink own index ref (T f).2.1 (T f).2.2.1 ∈ Ts) (q0 : Nat) (he : ws[q0]? = some (a, .inr (ci, fs))) (hc : cl[ci]? = some (C, T, N)) (hf : f < N) (hs : (T f).1 = ref) (hv : fs[f]? = some v) (h : jc_J p l e R s m args below meth c Q D cl A nL k n pc' lv (v :: st) ws) : jc_J p l e R s m args below meth c Q D cl A nL k n pc lv (.ref a :: st) ws := by
  subst hp
  exact fun H locs ls hP hD hS hl => va_get X.1.1 X.1.2.1 X.1.2.2.2.2 hin X.1.2.2.2.1 X.2.1 hP q0 he hc f hf (X.1.2.2.2.2 _ hlink) (fun x h9 => by rw [← hs]; exact h9) hv d (h H locs ls hP hD hS hl)
theorem jj_put (X : jc_X p s m args c cc nL Ts own D cl tys nst A) {ref C : String} {T : u_T} {N ci index a : Nat} {fs : List Value} {v : Value} {ty : FieldType} {ws' : va_W} (d : decode cc pc = .ok (.putfield index, 3)) (pc' : Nat) (hp : pc + 3 = pc') (hin : ∀ w ∈ u_ws C T N, w ∈ Ts) (ty0 : Nat → FieldType) (hty : ∀ k, k < N → parseFieldDescriptor (T k).2.2.1 = some (ty0 k)) (hnm : ∀ a, a < N → ∀ b, b < N → a ≠ b → (T a).2.1 ≠ (T b).2.1) (f : Nat) (hlink : Cond.fieldLink own index ref (T f).2.1 (T f).2.2.1 ∈ Ts) (q0 : Nat) (he : ws[q0]? = some (a, .inr (ci, fs))) (hc : cl[ci]? = some (C, T, N)) (hf : f < N) (hs : (T f).1 = ref) (hfin : (T f).2.2.2 = false) (hd : parseFieldDescriptor (T f).2.2.1 = some ty) (hn : narrow ty v = v) (hfit : fits ty v = true) (hlf : f < fs.length) (hw : ws.set q0 (a, .inr (ci, fs.set f v)) = ws') (h : jc_J p l e R s m args below meth c Q D cl A nL k n pc' lv st ws') : jc_J p l e R s m args below meth c Q D cl A nL k n pc lv (v :: .ref a :: st) ws := by
  subst hp; subst hw
  exact fun H locs ls hP hD hS hl => va_put X.1.1 X.1.2.1 X.1.2.2.2.2 hin ty0 hty hnm X.1.2.2.2.1 X.2.1 hP hD hS q0 he hc f hf (X.1.2.2.2.2 _ hlink) (fun x h9 => by rw [← hs]; exact h9) hfin hd hn hfit hlf d (fun H locs hP hD hS => h H locs ls hP hD hS hl)
theorem jj_putF (X : jc_X p s m args c cc nL Ts own D cl tys nst A) {C : String} {T : u_T} {N ci index a : Nat} {fs : List Value} {v : Value} {ty : FieldType} {ws' : va_W} (d : decode cc pc = .ok (.putfield index, 3)) (pc' : Nat) (hp : pc + 3 = pc') (hin : ∀ w ∈ u_ws C T N, w ∈ Ts) (ty0 : Nat → FieldType) (hty : ∀ k, k < N → parseFieldDescriptor (T k).2.2.1 = some (ty0 k)) (hnm : ∀ a, a < N → ∀ b, b < N → a ≠ b → (T a).2.1 ≠ (T b).2.1) (f : Nat) (hlink : Cond.fieldLink own index own (T f).2.1 (T f).2.2.1 ∈ Ts) (hin2 : meth.name = "<init>") (q0 : Nat) (he : ws[q0]? = some (a, .inr (ci, fs))) (hc : cl[ci]? = some (C, T, N)) (hf : f < N) (hs : (T f).1 = own) (hfin : (T f).2.2.2 = true) (hd : parseFieldDescriptor (T f).2.2.1 = some ty) (hn : narrow ty v = v) (hfit : fits ty v = true) (hlf : f < fs.length) (hw : ws.set q0 (a, .inr (ci, fs.set f v)) = ws') (h : jc_J p l e R s m args below meth c Q D cl A nL k n pc' lv st ws') : jc_J p l e R s m args below meth c Q D cl A nL k n pc lv (v :: .ref a :: st) ws := by
  subst hp; subst hw
  exact fun H locs ls hP hD hS hl => va_putF X.1.1 X.1.2.1 X.1.2.2.2.2 hin ty0 hty hnm X.1.2.2.2.1 X.2.1 hP hD hS q0 he hc f hf (X.1.2.2.2.2 _ hlink) (fun x h9 => by rw [← hs]; exact h9) hfin hin2 hs hd hn hfit hlf d (fun H locs hP hD hS => h H locs ls hP hD hS hl)
theorem jj_iald (X : jc_X p s m args c cc nL Ts own D cl tys nst A) {cA : ClassId} {a N : Nat} {f : Nat → Int32} {i v : Int32} (d : decode cc pc = .ok (.iaload, 1)) (pc' : Nat) (hp : pc + 1 = pc') (q0 t0 : Nat) (ha : ws[q0]? = some (a, .inl (cA, N, .inl f))) (ht : tys[t0]? = some (cA, .int)) (hin : vp_in i N) (hv : f i.toNatClampNeg = v) (h : jc_J p l e R s m args below meth c Q D cl A nL k n pc' lv (.int v :: st) ws) : jc_J p l e R s m args below meth c Q D cl A nL k n pc lv (.int i :: .ref a :: st) ws := by
  subst hp; subst hv
  exact fun H locs ls hP hD hS hl => va_iald X.1.1 X.1.2.1 X.2.1 hP q0 t0 ha ht hin d (h H locs ls hP hD hS hl)
theorem jj_zald (X : jc_X p s m args c cc nL Ts own D cl tys nst A) {cA : ClassId} {a N : Nat} {f : Nat → Int32} {i v : Int32} (d : decode cc pc = .ok (.baload, 1)) (pc' : Nat) (hp : pc + 1 = pc') (q0 t0 : Nat) (ha : ws[q0]? = some (a, .inl (cA, N, .inl f))) (ht : tys[t0]? = some (cA, .boolean)) (hin : vp_in i N) (hv : f i.toNatClampNeg = v) (h : jc_J p l e R s m args below meth c Q D cl A nL k n pc' lv (.int v :: st) ws) : jc_J p l e R s m args below meth c Q D cl A nL k n pc lv (.int i :: .ref a :: st) ws := by
  subst hp; subst hv
  exact fun H locs ls hP hD hS hl => va_zald X.1.1 X.1.2.1 X.2.1 hP q0 t0 ha ht hin d (h H locs ls hP hD hS hl)
theorem jj_iast (X : jc_X p s m args c cc nL Ts own D cl tys nst A) {cA : ClassId} {a N : Nat} {f : Nat → Int32} {i x : Int32} {ws' : va_W} (d : decode cc pc = .ok (.iastore, 1)) (pc' : Nat) (hp : pc + 1 = pc') (q0 t0 : Nat) (ha : ws[q0]? = some (a, .inl (cA, N, .inl f))) (ht : tys[t0]? = some (cA, .int)) (hin : vp_in i N) (hw : ws.set q0 (a, .inl (cA, N, .inl (upd f i.toNatClampNeg x))) = ws') (h : jc_J p l e R s m args below meth c Q D cl A nL k n pc' lv st ws') : jc_J p l e R s m args below meth c Q D cl A nL k n pc lv (.int x :: .int i :: .ref a :: st) ws := by
  subst hp; subst hw
  exact fun H locs ls hP hD hS hl => va_iast X.1.1 X.1.2.1 X.2.1 hP hD hS q0 t0 ha ht hin d (fun H locs hP hD hS => h H locs ls hP hD hS hl)
theorem jj_zast (X : jc_X p s m args c cc nL Ts own D cl tys nst A) {cA : ClassId} {a N : Nat} {f : Nat → Int32} {i x : Int32} {ws' : va_W} (d : decode cc pc = .ok (.bastore, 1)) (pc' : Nat) (hp : pc + 1 = pc') (q0 t0 : Nat) (ha : ws[q0]? = some (a, .inl (cA, N, .inl f))) (ht : tys[t0]? = some (cA, .boolean)) (hin : vp_in i N) (hn : vp_nar .boolean x = x) (hw : ws.set q0 (a, .inl (cA, N, .inl (upd f i.toNatClampNeg x))) = ws') (h : jc_J p l e R s m args below meth c Q D cl A nL k n pc' lv st ws') : jc_J p l e R s m args below meth c Q D cl A nL k n pc lv (.int x :: .int i :: .ref a :: st) ws := by
  subst hp; subst hw
  exact fun H locs ls hP hD hS hl => va_zast X.1.1 X.1.2.1 X.2.1 hP hD hS q0 t0 ha ht hin d (fun H locs hP hD hS => by rw [hn] at hP hD; exact h H locs ls hP hD hS hl)
theorem jj_alen (X : jc_X p s m args c cc nL Ts own D cl tys nst A) {cA : ClassId} {a : Nat} {x : vp_A} {ty : FieldType} {v : Int32} (d : decode cc pc = .ok (.arraylength, 1)) (pc' : Nat) (hp : pc + 1 = pc') (q0 t0 : Nat) (ha : ws[q0]? = some (a, .inl (cA, x))) (ht : tys[t0]? = some (cA, ty)) (hv : Int32.ofNat x.1 = v) (h : jc_J p l e R s m args below meth c Q D cl A nL k n pc' lv (.int v :: st) ws) : jc_J p l e R s m args below meth c Q D cl A nL k n pc lv (.ref a :: st) ws := by
  subst hp
  exact fun H locs ls hP hD hS hl => va_alen X.1.1 X.1.2.1 X.2.1 hP q0 t0 ha ht hv d (h H locs ls hP hD hS hl)
theorem jj_sld (X : jc_X p s m args c cc nL Ts own D cl tys nst A) {b L : Nat} {xs : Nat → Int32} (hX : va_X b L xs s s.heap) (hbl : b < s.heap.size) (hbA : ¬ A b) {i : Int32} (d : decode cc pc = .ok (.iaload, 1)) (pc' : Nat) (hp : pc + 1 = pc') (hin : vp_in i L) (h : jc_J p l e R s m args below meth c Q D cl A nL k n pc' lv (.int (xs i.toNatClampNeg) :: st) ws) : jc_J p l e R s m args below meth c Q D cl A nL k n pc lv (.int i :: .ref b :: st) ws := by
  subst hp
  exact fun H locs ls hP hD hS hl => va_sld X.1.1 X.1.2.1 hX hbl hbA hS hin d (h H locs ls hP hD hS hl)
theorem jj_slen (X : jc_X p s m args c cc nL Ts own D cl tys nst A) {b L : Nat} {xs : Nat → Int32} (hX : va_X b L xs s s.heap) (hbl : b < s.heap.size) (hbA : ¬ A b) (d : decode cc pc = .ok (.arraylength, 1)) (pc' : Nat) (hp : pc + 1 = pc') (h : jc_J p l e R s m args below meth c Q D cl A nL k n pc' lv (.int (nI L) :: st) ws) : jc_J p l e R s m args below meth c Q D cl A nL k n pc lv (.ref b :: st) ws := by
  subst hp
  exact fun H locs ls hP hD hS hl => va_slen X.1.1 X.1.2.1 hX hbl hbA hS d (h H locs ls hP hD hS hl)
theorem jj_newI (X : jc_X p s m args c cc nL Ts own D cl tys nst A) {cA : ClassId} {z : Int32} {N : Nat} (d : decode cc pc = .ok (.newarray .int, 2)) (pc' : Nat) (hp : pc + 2 = pc') (harr : Cond.arrayClass .int ∈ Ts) (t0 : Nat) (ht : tys[t0]? = some (cA, .int)) (hn : ¬ z < 0) (hN : z.toNatClampNeg = N) (hb : N * componentBytes .int ≤ 536870912) (hc : k + 1 ≤ R.cells) (hs : n + N ≤ R.slots) (h : ∀ q : Nat, jc_J p l e R s m args below meth c Q D cl A nL (k + 1) (n + N) pc' lv (.ref q :: st) (ws ++ [(q, .inl (cA, N, .inl (fun _ => 0)))])) : jc_J p l e R s m args below meth c Q D cl A nL k n pc lv (.int z :: st) ws := by
  subst hp
  refine fun H locs ls hP hD hS hl => ?_
  refine va_newa (atype := .int) (a0 := (N, .inl (fun _ => 0))) (ty := .int) X.1.1 X.1.2.1 (X.1.2.2.2.2 _ harr) rfl X.2.1 hP hD hS X.2.2.1 (fun _ => rfl) hn hN hb hc hs d (fun q cB H1 hK1 hP1 hD1 hS1 => ?_)
  have e1 := (hK1.2 tys.length (cB, .int) (by simp)).2
  have e2 := (X.2.1.2 t0 (cA, .int) ht).2
  have e3 : cB = cA := Option.some.inj (e1.symm.trans e2)
  subst e3
  exact h q H1 locs ls hP1 hD1 hS1 hl
theorem jj_newZ (X : jc_X p s m args c cc nL Ts own D cl tys nst A) {cA : ClassId} {z : Int32} {N : Nat} (d : decode cc pc = .ok (.newarray .boolean, 2)) (pc' : Nat) (hp : pc + 2 = pc') (harr : Cond.arrayClass .boolean ∈ Ts) (t0 : Nat) (ht : tys[t0]? = some (cA, .boolean)) (hn : ¬ z < 0) (hN : z.toNatClampNeg = N) (hb : N * componentBytes .boolean ≤ 536870912) (hc : k + 1 ≤ R.cells) (hs : n + N ≤ R.slots) (h : ∀ q : Nat, jc_J p l e R s m args below meth c Q D cl A nL (k + 1) (n + N) pc' lv (.ref q :: st) (ws ++ [(q, .inl (cA, N, .inl (fun _ => 0)))])) : jc_J p l e R s m args below meth c Q D cl A nL k n pc lv (.int z :: st) ws := by
  subst hp
  refine fun H locs ls hP hD hS hl => ?_
  refine va_newa (atype := .boolean) (a0 := (N, .inl (fun _ => 0))) (ty := .boolean) X.1.1 X.1.2.1 (X.1.2.2.2.2 _ harr) rfl X.2.1 hP hD hS X.2.2.1 (fun _ => rfl) hn hN hb hc hs d (fun q cB H1 hK1 hP1 hD1 hS1 => ?_)
  have e1 := (hK1.2 tys.length (cB, .boolean) (by simp)).2
  have e2 := (X.2.1.2 t0 (cA, .boolean) ht).2
  have e3 : cB = cA := Option.some.inj (e1.symm.trans e2)
  subst e3
  exact h q H1 locs ls hP1 hD1 hS1 hl
theorem jj_new (X : jc_X p s m args c cc nL Ts own D cl tys nst A) {C : String} {T : u_T} {N ci index : Nat} {fs : List Value} (d : decode cc pc = .ok (.new index, 3)) (pc' : Nat) (hp : pc + 3 = pc') (hin : ∀ w ∈ u_ws C T N, w ∈ Ts) (ty : Nat → FieldType) (hty : ∀ k, k < N → parseFieldDescriptor (T k).2.2.1 = some (ty k)) (hcl : Cond.classLink own index C ∈ Ts) (hinst : Cond.instantiable C N ∈ Ts) (hini : Cond.initialized C ∈ Ts) (hc : cl[ci]? = some (C, T, N)) (hfs : ∀ j, j < N → defaultValue (ty j) = vp_V fs j) (hcells : k + 1 ≤ R.cells) (hslots : n + N ≤ R.slots) (h : ∀ q : Nat, jc_J p l e R s m args below meth c Q D cl A nL (k + 1) (n + N) pc' lv (.ref q :: st) (ws ++ [(q, .inr (ci, fs))])) : jc_J p l e R s m args below meth c Q D cl A nL k n pc lv st ws := by
  subst hp
  exact fun H locs ls hP hD hS hl => va_new X.1.1 X.1.2.1 X.1.2.2.2.2 hin ty hty X.1.2.2.2.1 (X.1.2.2.2.2 _ hcl) (X.1.2.2.2.2 _ hinst) (X.1.2.2.2.2 _ hini) X.2.1 hP hD hS X.2.2.1 hc hfs hcells hslots d (fun q H1 hP hD hS => h q H1 locs ls hP hD hS hl)
theorem jj_objInit (X : jc_X p s m args c cc nL Ts own D cl tys nst A) {a index : Nat} (d : decode cc pc = .ok (.invokespecial index, 3)) (pc' : Nat) (hp : pc + 3 = pc') (h1 : Cond.methodLink own index Lib.objectInit ∈ Ts) (h2 : Cond.instanceMethod Lib.objectInit ∈ Ts) (h3 : Cond.code Lib.objectInit ⟨#[0xb1]⟩ 1 none ∈ Ts) (hf : 1 ≤ R.frames) (hl0 : 12 ≤ R.locals) (h : jc_J p l e R s m args below meth c Q D cl A nL k n pc' lv [] ws) : jc_J p l e R s m args below meth c Q D cl A nL k n pc lv [.ref a] ws := by
  subst hp
  refine fun H locs ls hP hD hS hl => ?_
  refine W.objInit X.1.1 X.1.2.1 X.1.2.2.2.1 (X.1.2.2.2.2 _ h1) (X.1.2.2.2.2 _ h2) (X.1.2.2.2.2 _ h3) rfl (by rw [X.1.2.2.1]; exact hl.1) rfl d hf (by simpa using hl0) ?_
  exact h H locs ls hP hD hS hl
theorem jj_mmin (X : jc_X p s m args c cc nL Ts own D cl tys nst A) {x y : Int32} {index : Nat} (d : decode cc pc = .ok (.invokestatic index, 3)) (pc' : Nat) (hp : pc + 3 = pc') (h1 : Cond.methodLink own index Lib.Math.min.name ∈ Ts) (h2 : Cond.static Lib.Math.min.name ∈ Ts) (h3 : Cond.initialized "java/lang/Math" ∈ Ts) (h4 : Cond.code Lib.Math.min.name Lib.Math.min.code 2 (some .int) ∈ Ts) (hf : 1 ≤ R.frames) (hlo : (st.map fun v => v.category).sum + 13 ≤ R.locals) (hc : k ≤ R.cells) (hs : n ≤ R.slots) (h : jc_J p l e R s m args below meth c Q D cl A nL k n pc' lv (.int (if y < x then y else x) :: st) ws) : jc_J p l e R s m args below meth c Q D cl A nL k n pc lv (.int y :: .int x :: st) ws := by
  subst hp
  exact fun H locs ls hP hD hS hl => va_mmin X.1.1 X.1.2.1 (by rw [X.1.2.2.1]; exact hl.1.symm) X.1.2.2.2.1 (X.1.2.2.2.2 _ h1) (X.1.2.2.2.2 _ h2) (X.1.2.2.2.2 _ h3) (X.1.2.2.2.2 _ h4) hf hlo hc hs d (h H locs ls hP hD hS hl)
theorem jj_mmax (X : jc_X p s m args c cc nL Ts own D cl tys nst A) {x y : Int32} {index : Nat} (d : decode cc pc = .ok (.invokestatic index, 3)) (pc' : Nat) (hp : pc + 3 = pc') (h1 : Cond.methodLink own index Lib.Math.max.name ∈ Ts) (h2 : Cond.static Lib.Math.max.name ∈ Ts) (h3 : Cond.initialized "java/lang/Math" ∈ Ts) (h4 : Cond.code Lib.Math.max.name Lib.Math.max.code 2 (some .int) ∈ Ts) (hf : 1 ≤ R.frames) (hlo : (st.map fun v => v.category).sum + 13 ≤ R.locals) (hc : k ≤ R.cells) (hs : n ≤ R.slots) (h : jc_J p l e R s m args below meth c Q D cl A nL k n pc' lv (.int (if x < y then y else x) :: st) ws) : jc_J p l e R s m args below meth c Q D cl A nL k n pc lv (.int y :: .int x :: st) ws := by
  subst hp
  exact fun H locs ls hP hD hS hl => va_mmax X.1.1 X.1.2.1 (by rw [X.1.2.2.1]; exact hl.1.symm) X.1.2.2.2.1 (X.1.2.2.2.2 _ h1) (X.1.2.2.2.2 _ h2) (X.1.2.2.2.2 _ h3) (X.1.2.2.2.2 _ h4) hf hlo hc hs d (h H locs ls hP hD hS hl)
end JW
