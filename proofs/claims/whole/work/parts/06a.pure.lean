def rmc (n c s : Nat) : Room := { frames := n, cells := c, slots := s, locals := 40 * n }
section JP
variable {p : Program} {l : Launch} {e : Env} {R : Room} {s : State} {m : MethodId} {args : Array Value} {below : List Frame} {meth : Method} {c : Code} {Q : State → Prop} {nL : Nat} {D : va_G} {cl : List vw_C} {A : Nat → Prop} {k n pc : Nat} {lv : List (Nat × Value)} {st : List Value} {ws : va_W}
/-- the same cells in another order -/
theorem jj_perm {ws' : va_W} (is : List Nat) (h1 : is.filterMap (fun i => ws[i]?) = ws') (h2 : va_nd is = true) (h3 : is.map (fun i => ws[i]?) = ws'.map some) (h : jc_J p l e R s m args below meth c Q D cl A nL k n pc lv st ws') : jc_J p l e R s m args below meth c Q D cl A nL k n pc lv st ws :=
  fun H locs ls hP hD hS hl => h H locs ls (hP.sub is h1) (hD.sub is h2 h3) hS hl
end JP
theorem mx6_0 : mx6 (fun _ => 0) (fun _ => 0) (fun _ => 0) (fun _ => 0) (fun _ => 0) (fun _ => 0) = fun _ => 0 := by funext i; unfold mx6; split <;> rfl
theorem mx3_0 : mx3 (fun _ => 0) (fun _ => 0) (fun _ => 0) = fun _ => 0 := by funext i; unfold mx3; split <;> rfl
theorem mx8_0 : mx8 (fun _ => 0) (fun _ => 0) (fun _ => 0) (fun _ => 0) (fun _ => 0) (fun _ => 0) (fun _ => 0) (fun _ => 0) = fun _ => 0 := by funext i; unfold mx8; split <;> rfl
theorem mx2_0 : mx2 (fun _ => 0) (fun _ => 0) = fun _ => 0 := by funext i; unfold mx2; split <;> rfl
