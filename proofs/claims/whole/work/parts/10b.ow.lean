def owX : String := "java/lang/ArithmeticException"
def owN : List String := ["java/lang/RuntimeException", "java/lang/Exception"]
def owAll : List Cond := Jvm.Bundle.ownAtoms "TransitRows" 209 owX owN
def owS1 : String := "UNASSIGNED_STACK"
def owS2 : String := "SUPPRESSED_SENTINEL"
def owH : List Cond := [.laysStatic Jvm.Bundle.tN owS1 Jvm.Bundle.steD, .laysStatic Jvm.Bundle.tN owS2 Jvm.Bundle.listD, .isRef (.static Jvm.Bundle.tN owS1 Jvm.Bundle.steD), .isRef (.static Jvm.Bundle.tN owS2 Jvm.Bundle.listD)]
/-- a word of the tables alone that stays under warmer tables -/
def owF (w : Cond) : Bool := w.onTables && w.keepsFace
theorem ow_split : owAll.all (fun w => owF w || decide (w ∈ owH)) = true := by decide +kernel
theorem ow_at {args a' : Array Value} {s U : State} (hW : s.WarmedH U.vm) {w : Cond} (hw : owF w = true) (h : w.before args s = true) : w.before a' U = true := by
  simp only [owF, Bool.and_eq_true] at hw
  have h1 := Cond.before_shiftedFace (State.Shifted.of_warmed hW) w hw.2 h
  rw [Cond.onTables_vm (A' := a') (U' := U) U.vm w hw.1, State.setVm_self] at h1
  exact h1
theorem ow_args {args a' : Array Value} {s : State} {w : Cond} (hw : owF w = true) (h : w.before args s = true) : w.before a' s = true := by
  simp only [owF, Bool.and_eq_true] at hw
  have h2 := Cond.onTables_vm (A := args) (A' := a') (U := s) (U' := s) s.vm w hw.1
  rw [State.setVm_self] at h2
  rw [← h2]
  exact h
/-- a static of Throwable that holds a reference; its cell lies outside A -/
def zw (n d : String) (A : Nat → Prop) (U : State) (H : Heap) : Prop :=
  ∃ (c : ClassId) (k : Class) (i : Nat) (f : Field) (a : Nat) (cell : Cell), U.vm.findClass Jvm.Bundle.tN = some c ∧ U.fieldFound? Jvm.Bundle.tN n d = some (c, k, i, f) ∧ f.isStatic = true ∧ k.statics = some a ∧ H[a]? = some cell ∧ cell.vm.isStatics = true ∧ cell.cls = c ∧ f.slot < cell.slots.size ∧ k.staticTypes[f.slot]? = some f.type ∧ (cell.slots[f.slot]? = some .null ∨ ∃ t : Nat, cell.slots[f.slot]? = some (.ref t)) ∧ ¬ A a
theorem zw_moved {n d : String} {A : Nat → Prop} {u U : State} {H : Heap} (hvm : u.vm.Alike U.vm) (h : zw n d A u H) : zw n d A U H := by
  obtain ⟨c, k, i, f, a, cell, h0, h1, h2, h3, h4, h5, h6, h7, h8, h9⟩ := h
  obtain ⟨k', hi', he⟩ := State.fieldFound?_setVm hvm h1
  exact ⟨c, k', i, f, a, cell, (hvm.findClass _ _).trans h0, hi', h2, by rw [he]; exact h3, h4, h5, h6, h7, by rw [he]; exact h8, h9⟩
theorem zw_kept {n d : String} {A : Nat → Prop} {U : State} {H H1 : Heap} (h : zw n d A U H) (hq : ∀ a : Nat, a < H.size → ¬ A a → H1[a]? = H[a]?) : zw n d A U H1 := by
  obtain ⟨c, k, i, f, a, cell, h0, h1, h2, h3, h4, h5, h6, h7, h8, h9, h10⟩ := h
  exact ⟨c, k, i, f, a, cell, h0, h1, h2, h3, by rw [hq a (Array.getElem?_eq_some_iff.mp h4).1 h10]; exact h4, h5, h6, h7, h8, h9, h10⟩
theorem zw_narrow {n d : String} {A B : Nat → Prop} {U : State} {H : Heap} (h : zw n d A U H) (hAB : ∀ q, q < H.size → B q → A q) : zw n d B U H := by
  obtain ⟨c, k, i, f, a, cell, h0, h1, h2, h3, h4, h5, h6, h7, h8, h9, h10⟩ := h
  exact ⟨c, k, i, f, a, cell, h0, h1, h2, h3, h4, h5, h6, h7, h8, h9, fun z => h10 (hAB a (Array.getElem?_eq_some_iff.mp h4).1 z)⟩
theorem zw_of {args : Array Value} {s : State} {n d : String} {A : Nat → Prop} (hl : (Cond.laysStatic Jvm.Bundle.tN n d).before args s = true) (h : (Cond.isRef (.static Jvm.Bundle.tN n d)).before args s = true) (hA : ∀ a : Nat, a < s.heap.size → ¬ A a) : zw n d A s s.heap := by
  obtain ⟨c, k, i, f, a, cell, hc, hi, hst, ha, hcell, hs, hcls, hlt, hty⟩ := Cond.laysStatic_spec hl
  have key : ∀ v, (Term.static Jvm.Bundle.tN n d).eval args s none [] s = some v → cell.slots[f.slot]? = some v := fun v hv => by
    obtain ⟨-, a', cell', ha', hcell', -, hslot⟩ := Term.static_spec hi hv
    cases ha.symm.trans ha'
    cases hcell.symm.trans hcell'
    exact hslot
  refine ⟨c, k, i, f, a, cell, hc, hi, hst, ha, hcell, hs, hcls, hlt, hty, ?_, hA a (Array.getElem?_eq_some_iff.mp hcell).1⟩
  cases hv : (Term.static Jvm.Bundle.tN n d).eval args s none [] s with
  | none => simp [Cond.before, Cond.holds, Cond.value, hv] at h
  | some w =>
    simp only [Cond.before, Cond.holds, Cond.value, hv] at h
    cases w with
    | null => exact Or.inl (key _ hv)
    | ref t => exact Or.inr ⟨t, key _ hv⟩
    | _ => simp at h
theorem zw_lays {args : Array Value} {U : State} {n d : String} {A : Nat → Prop} (h : zw n d A U U.heap) : (Cond.laysStatic Jvm.Bundle.tN n d).before args U = true := by
  obtain ⟨c, k, i, f, a, cell, h0, h1, h2, h3, h4, h5, h6, h7, h8, h9, h10⟩ := h
  simp [Cond.before, Cond.holds, Cond.value, h0, h1, h2, h3, h4, h5, h6, h7, h8]
theorem zw_ref {args : Array Value} {U : State} {n d : String} {A : Nat → Prop} (h : zw n d A U U.heap) : (Cond.isRef (.static Jvm.Bundle.tN n d)).before args U = true := by
  obtain ⟨c, k, i, f, a, cell, h0, h1, h2, h3, h4, h5, h6, h7, h8, h9, h10⟩ := h
  have hu : cell.vm ≠ .unknown := fun z => by rw [z] at h5; cases h5
  rcases h9 with h9 | ⟨t, h9⟩
  · simp [Cond.before, Cond.holds, Cond.value, Term.eval, State.fieldNamed?, h1, h2, h3, h4, h5, h9]
  · simp [Cond.before, Cond.holds, Cond.value, Term.eval, State.fieldNamed?, h1, h2, h3, h4, h5, h9]
/-- all that a throw wants -/
def ow (a0 : Nat) (A : Nat → Prop) (U : State) (H : Heap) : Prop := (∀ w ∈ owAll, owF w = true → w.before #[] U = true) ∧ vk_R "TransitRows" 207 "no slip arrived" a0 U ∧ zw owS1 Jvm.Bundle.steD A U H ∧ zw owS2 Jvm.Bundle.listD A U H
theorem ow_warm {a0 : Nat} {A : Nat → Prop} {s U : State} {H : Heap} (hW : s.WarmedH U.vm) (h : ow a0 A s H) : ow a0 A U H :=
  ⟨fun w hw hf => ow_at hW hf (h.1 w hw hf), h.2.1.warm hW, zw_moved hW.alike h.2.2.1, zw_moved hW.alike h.2.2.2⟩
theorem ow_kept {a0 : Nat} {A : Nat → Prop} {U : State} {H H1 : Heap} (h : ow a0 A U H) (hq : ∀ a : Nat, a < H.size → ¬ A a → H1[a]? = H[a]?) : ow a0 A U H1 := ⟨h.1, h.2.1, zw_kept h.2.2.1 hq, zw_kept h.2.2.2 hq⟩
theorem ow_narrow {a0 : Nat} {A B : Nat → Prop} {U : State} {H : Heap} (h : ow a0 A U H) (hAB : ∀ q, q < H.size → B q → A q) : ow a0 B U H := ⟨h.1, h.2.1, zw_narrow h.2.2.1 hAB, zw_narrow h.2.2.2 hAB⟩
theorem ow_same {a0 : Nat} {A : Nat → Prop} {s U : State} {H : Heap} (hv : U.vm = s.vm) (h : ow a0 A s H) : ow a0 A U H :=
  ⟨fun w hw hf => by
    have h2 := Cond.onTables_vm (A := #[]) (A' := #[]) (U := U) (U' := s) s.vm w (by simp only [owF, Bool.and_eq_true] at hf; exact hf.1)
    rw [State.setVm_self, ← hv, State.setVm_self] at h2
    rw [h2]
    exact h.1 w hw hf, h.2.1.same hv, zw_moved (by rw [hv]; exact Vm.Alike.refl _) h.2.2.1, zw_moved (by rw [hv]; exact Vm.Alike.refl _) h.2.2.2⟩
theorem ow_all {a0 : Nat} {A : Nat → Prop} {U : State} (h : ow a0 A U U.heap) (args : Array Value) : ∀ w ∈ owAll, w.before args U = true := fun w hw => by
  have h1 := List.all_eq_true.mp ow_split w hw
  simp only [Bool.or_eq_true, decide_eq_true_eq] at h1
  rcases h1 with h1 | h1
  · exact ow_args h1 (h.1 w hw h1)
  · simp only [owH, List.mem_cons, List.not_mem_nil, or_false] at h1
    rcases h1 with rfl | rfl | rfl | rfl
    · exact zw_lays h.2.2.1
    · exact zw_lays h.2.2.2
    · exact zw_ref h.2.2.1
    · exact zw_ref h.2.2.2
