/-- how a method that threw has moved the state -/
def tE (st t : State) (L : List Loc) (k n : Nat) : Prop := st.WarmedH t.vm ∧ st.sameButNew ({ t with vm := st.vm } : State) L k n
/-- a method that throws: what holds ahead, what is known behind -/
def tq (l : Launch) (y : MethodName) (ws : List Cond) (rm : Room) (av : List Value) (P : State → Prop) (B : State → State → Prop) (free : Nat → Prop) : Prop :=
  MetFree l y (headSpec ws rm) (fun a U => a = av.toArray ∧ P U) (fun _ _ _ _ _ => True) (fun _ st o t => (∃ (q : Nat) (ce : Cell), o = .threw q ∧ st.heap.size ≤ q ∧ t.heap[q]? = some ce ∧ ce.vm.isStatics = false ∧ st.vm.findClass owX = some ce.cls ∧ B st t) ∧ ∃ L, tE st t L rm.cells rm.slots ∧ ∀ x ∈ L, free x.base)
section TW
variable {p : Program} {l : Launch} {e : Env} {R : Room} {s : State} {m : MethodId} {args : Array Value} {below : List Frame} {meth : Method} {c : Code} {T : State} {locs : List Loc} {cells slots : Nat}
/-- the state behind a method that threw, seen from the caller's frame -/
def tU (T t : State) : State := ({ T with heap := t.heap, slotsUsed := t.slotsUsed } : State).setVm t.vm
theorem tU_eq {g : JFrame} {mk : MethodId} {a : Array Value} {t : State} {v : Addr} {L : List Loc} {k n : Nat} (htop : T.topJava?.isSome) (hf : t.frames = .throwing v :: .java g :: T.frames.tail) (h : tE (T.calling g mk a) t L k n) : t = ((tU T t).setTop g).pushFrame (.throwing v) := by
  obtain ⟨g0, hg0⟩ := Option.isSome_iff_exists.mp htop
  obtain ⟨r, hr⟩ := State.topJava?_eq_some.mp hg0
  have hr1 : (tU T t).frames = .java g0 :: r := hr
  have h1 : ({ t with vm := (T.calling g mk a).vm } : State).setVm t.vm = ({ (T.calling g mk a).setFrames t.frames with heap := t.heap, slotsUsed := t.slotsUsed } : State).setVm t.vm := congrArg (fun z => State.setVm z t.vm) h.2.1
  have h2 : t = ({ (T.calling g mk a).setFrames t.frames with heap := t.heap, slotsUsed := t.slotsUsed } : State).setVm t.vm := h1
  rw [State.pushFrame, State.frames_setTop _ hr1, State.setTop_of_frames _ hr1, State.setFrames_setFrames]
  refine h2.trans ?_
  rw [hf, State.calling_eq htop, State.setFrames_setFrames, hr]
  rfl
/-- the caller stands behind a call that threw, under its note -/
theorem tw_run (X : Stand p l e R s m args below meth c T locs cells slots) {y : MethodName} {ws : List Cond} {rm : Room} {av : List Value} {P : State → Prop} {B : State → State → Prop} {free : Nat → Prop} (M : tq l y ws rm av P B free)
    {bytes : ByteArray} {maxL : Nat} {ret : Option FieldType} {mk : MethodId} (hn : T.methodNamed? y = some mk) (hws : ∀ w ∈ ws, w.before av.toArray T = true) (hcode : (Cond.code y bytes maxL ret).before av.toArray T = true) (hinit : (Cond.initialized y.cls).before av.toArray T = true)
    {g : JFrame} (hg : g.method = m) (hsize : g.locals.size = c.maxLocals) {i : Instr} {len : Nat} (hd : decode c.code g.pc = .ok (i, len)) (hf : rm.frames + 1 ≤ R.frames) (hl : 2 * g.monitorRoom + (g.stack.map fun v => v.category).sum + (maxL + 11) + rm.locals ≤ R.locals) (hc : cells + rm.cells ≤ R.cells) (hs : slots + rm.slots ≤ R.slots)
    (hP : P (T.calling g mk av.toArray)) :
    ∃ (v : Nat) (t : State) (L : List Loc), Stand p l e R s m args below meth c (tU T t) (locs ++ L) (cells + rm.cells) (slots + rm.slots) ∧ (∀ x ∈ L, free x.base) ∧ T.heap.size ≤ v ∧ (∃ ce : Cell, t.heap[v]? = some ce ∧ ce.vm.isStatics = false ∧ T.vm.findClass owX = some ce.cls) ∧ T.heap.size ≤ t.heap.size ∧ B (T.calling g mk av.toArray) t ∧
      Steps p.tables e below (doInvoke e (T.setTop g) [] mk av.toArray).1 (((tU T t).setTop g).pushFrame (.throwing v)) := by
  subst hg
  have hat := X.here
  obtain ⟨my, cy, e1, e2, -, e3, -⟩ := Cond.code_spec hn hcode
  obtain ⟨ky, e4, -⟩ := className_of_methodNamed hn
  have happ : (headSpec ws rm).appliesLoose y e.platform (T.calling g mk av.toArray) = true :=
    Spec.appliesLoose_calling (g := g) hat hd hn e4 (Cond.initialized_spec (findClass_of_methodNamed hn) e4 hinit) (X.room_calling (g := g) (R' := rm) hsize e1 e2 hf (by rw [e3]; exact hl) hc hs) (atoms_intro hws)
  obtain ⟨up, hup⟩ := hat.above
  have hft : (T.setTop g).frames = .java g :: T.frames.tail := State.frames_setTop' g hat.top
  have hfr : (T.setTop g).frames = (.java g :: up) ++ below := by rw [hft, hup]; rfl
  obtain ⟨o, t, hst, -, hend, ⟨v, ce, rfl, q1, q2, q3, q4, q5⟩, L, hE, hL⟩ := Steps.callFree M p X.admits X.cas X.clock (acts := []) hfr happ ⟨rfl, hP⟩ trivial
  rw [hft] at hend
  have heq := tU_eq (mk := mk) (a := av.toArray) hat.top hend hE
  have hWt : T.WarmedH t.vm := hE.1
  have hsame : T.sameButNew ((tU T t).setVm T.vm) L rm.cells rm.slots := by
    obtain ⟨g0, hg0⟩ := Option.isSome_iff_exists.mp hat.top
    obtain ⟨r, hr⟩ := State.topJava?_eq_some.mp hg0
    obtain ⟨th, hth, -⟩ := State.frames_cons hr
    refine ⟨?_, hE.2.2⟩
    show ({ T with heap := t.heap, slotsUsed := t.slotsUsed } : State) = { T.setFrames T.frames with heap := t.heap, slotsUsed := t.slotsUsed }
    rw [State.setFrames_self hth]
  refine ⟨v, t, L, X.moved (T₂ := tU T t) ((hat.setHeapUsed t.heap t.slotsUsed).setVm hWt.alike) X.tail rfl rfl hWt hsame, hL, q1, ⟨ce, q2, q3, q4⟩, hE.2.2.1, q5, ?_⟩
  rw [← heq]
  exact hst
/-- the search over a table of one row, whose class may be linked only now -/
theorem tc_find {S : State} {f : JFrame} {a : Addr} {my : Method} {cy : Code} {ce : Cell} {cT : ClassId} {x : ExceptionTableEntry} (hm : S.vm.method? f.method = some my) (hc : my.code = some cy) (hx : cy.exceptionTable.toList = [x]) (hcov : covers x f.pc = true) (h0 : x.catchType ≠ 0) (hl : S.vm.ClassLinks e.platform f.method.cls x.catchType cT) (hce : S.heap[a]? = some ce) (hob : ce.vm.isStatics = false) (hfit : S.vm.assignable ce.cls cT = true) (Q : Handler → Pre) (E : CtlPost) (d : Bool) (acts : List Action) :
    wp (findHandler f a) Q E e d acts S ↔ Q (.found x.handlerPc) d acts (S.setVm (S.vm.noted f.method.cls x.catchType (.cls cT))) := by
  rw [W.findHandler_eq hm hc, hx]
  obtain ⟨ho, hr⟩ := (resolveClass_links e.toSetting hl).op (op := VmOp.resolveClass f.method.cls x.catchType) rfl
  have hal : S.vm.Alike (S.vm.noted f.method.cls x.catchType (.cls cT)) := Vm.Alike.noted (Vm.Alike.refl _) _ _ _
  have hkt : ∃ k, S.vm.classes[cT]? = some k := by
    obtain ⟨_, _, _, kt, _, _, _, _, _, hkt, _⟩ := hl.here
    exact ⟨kt, hkt⟩
  obtain ⟨kc, hkc⟩ := Vm.classAt_of_assignable hfit hkt
  obtain ⟨kt, hkt⟩ := hkt
  obtain ⟨k1, hk1, -⟩ := hal.2.2 _ _ hkc
  obtain ⟨k2, hk2, -⟩ := hal.2.2 _ _ hkt
  have hfit2 := (hal.assignable ce.cls cT).trans hfit
  have hob2 := VmData.ne_statics_of hob
  have hc2 : (decide (x.startPc ≤ f.pc) && decide (f.pc < x.endPc)) = true := hcov
  simp [findHandler.go, hc2, h0, ho, hr, hce, hob2, hk1, hk2, hfit2, VmOp.dirties, VmOp.acts]
/-- the note over a frame whose method's one row catches -/
theorem tw_catch (X : Stand p l e R s m args below meth c T locs cells slots) {v : Addr} {g : JFrame} (hg : g.method = m) {ce : Cell} (hce : T.heap[v]? = some ce) (hob : ce.vm.isStatics = false) {own name : String} (hown : s.vm.findClass own = some m.cls) {x : ExceptionTableEntry} (hx : c.exceptionTable.toList = [x]) (hcov : covers x g.pc = true) (h0 : x.catchType ≠ 0) (hlink : (Cond.classLink own x.catchType name).before args s = true) {cT : ClassId} (hcT : s.vm.findClass name = some cT) (hfit : s.vm.assignable ce.cls cT = true) :
    ∃ vm', Stand p l e R s m args below meth c (T.setVm vm') locs cells slots ∧ Steps p.tables e below ((T.setTop g).pushFrame (.throwing v)) ((T.setVm vm').setTop { g with pc := x.handlerPc, stack := [.ref v] }) := by
  subst hg
  have hpl : e.platform.magicAccessors = ({} : Platform).magicAccessors := by rw [X.admits.platform]
  obtain ⟨cT2, z1, z2⟩ := Cond.classLink_spec hown hlink e.platform hpl
  cases hcT.symm.trans z1
  obtain ⟨_, _, _, _, z3, _, _, _, _, _, _, z4⟩ := z2.here
  have hW : s.WarmedH (T.vm.noted g.method.cls x.catchType (.cls cT)) := X.warmed.noted z3 z4 (State.rightAt_cls z2)
  refine ⟨_, X.noted hW, ?_⟩
  obtain ⟨g0, hg0⟩ := Option.isSome_iff_exists.mp X.here.top
  obtain ⟨r, hr⟩ := State.topJava?_eq_some.mp hg0
  obtain ⟨w1, w2⟩ := X.here.throwing (g := g) v
  have hv : ((T.setTop g).pushFrame (.throwing v)).vm = T.vm := Stand.throwing_vm T g v
  have hh : ((T.setTop g).pushFrame (.throwing v)).heap = T.heap := Stand.throwing_heap T g v
  have hF := tc_find (e := e) (S := (T.setTop g).pushFrame (.throwing v)) (f := g) (a := v) (by rw [hv]; exact X.method') X.code hx hcov h0 (by rw [hv]; exact X.warmed.classLinks z2) (by rw [hh]; exact hce) hob (by rw [hv, X.warmed.alike.assignable]; exact hfit)
  refine Steps.head w1 w2 ?_
  rw [stepThread_throwing (frames_entered X.here.top _)]
  have hstep : (stepThrowing e ((T.setTop g).pushFrame (.throwing v)) v (.java g :: T.frames.tail)).Is ((((T.setTop g).pushFrame (.throwing v)).setVm (((T.setTop g).pushFrame (.throwing v)).vm.noted g.method.cls x.catchType (.cls cT))).setFrames (.java { g with pc := x.handlerPc, stack := [.ref v] } :: T.frames.tail)) [] := by
    simp only [stepThrowing, searchFrame, vmDo]
    generalize hres : Sem.go _ e false [] _ = res
    obtain ⟨as, rfl, ha⟩ := Sem.eq_ok_of hres (a := Handler.found x.handlerPc) (s' := ((T.setTop g).pushFrame (.throwing v)).setVm (((T.setTop g).pushFrame (.throwing v)).vm.noted g.method.cls x.catchType (.cls cT))) (acts' := []) (by simp [hF])
    exact ⟨rfl, ha⟩
  rw [hstep.1, hv]
  have hr1 : (T.setVm (T.vm.noted g.method.cls x.catchType (.cls cT))).frames = .java g0 :: r := hr
  rw [State.setTop_of_frames _ hr1, State.pushFrame, State.frames_setTop _ hr, State.setTop_of_frames _ hr, State.setFrames_setFrames, hr]
  have hsw : (T.setFrames (.throwing v :: .java g :: r)).setVm (T.vm.noted g.method.cls x.catchType (.cls cT)) = (T.setVm (T.vm.noted g.method.cls x.catchType (.cls cT))).setFrames (.throwing v :: .java g :: r) := rfl
  rw [hsw, State.setFrames_setFrames]
  exact Steps.refl _
end TW
