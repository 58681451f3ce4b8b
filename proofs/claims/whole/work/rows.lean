section
-- ===== PART A: goes FIRST, ahead of the names: the tables' words, and 'selects' of the private methods out of them =====
/-- a private method of a class that the tables say can be made, by its rows of tables_1 -/
def lw_okq (q : MethodName × Nat) : Prop := (q.1.cls ≠ "java/lang/invoke/MethodHandle" ∧ q.1.cls ≠ "java/lang/invoke/VarHandle") ∧ Cond.instantiable q.1.cls q.2 ∈ tables_1 ∧ Cond.privateMethod q.1 ∈ tables_1 ∧ Cond.instanceMethod q.1 ∈ tables_1
theorem lw_p0 : lw_okq (⟨"TransitRows", "queueBin", "(II)V"⟩, 8) := ⟨⟨by decide +kernel, by decide +kernel⟩, List.mem_of_getElem? (i := 16) (by decide +kernel), List.mem_of_getElem? (i := 324) (by decide +kernel), List.mem_of_getElem? (i := 325) (by decide +kernel)⟩
theorem lw_p1 : lw_okq (⟨"TransitRows", "enqueue", "(I)V"⟩, 8) := ⟨⟨by decide +kernel, by decide +kernel⟩, List.mem_of_getElem? (i := 16) (by decide +kernel), List.mem_of_getElem? (i := 329) (by decide +kernel), List.mem_of_getElem? (i := 330) (by decide +kernel)⟩
theorem lw_p2 : lw_okq (⟨"TransitRows", "isBefore", "(II)Z"⟩, 8) := ⟨⟨by decide +kernel, by decide +kernel⟩, List.mem_of_getElem? (i := 16) (by decide +kernel), List.mem_of_getElem? (i := 333) (by decide +kernel), List.mem_of_getElem? (i := 334) (by decide +kernel)⟩
theorem lw_p3 : lw_okq (⟨"TransitRows", "queueDue", "(II)V"⟩, 8) := ⟨⟨by decide +kernel, by decide +kernel⟩, List.mem_of_getElem? (i := 16) (by decide +kernel), List.mem_of_getElem? (i := 346) (by decide +kernel), List.mem_of_getElem? (i := 347) (by decide +kernel)⟩
theorem lw_p4 : lw_okq (⟨"TransitRows", "takeFromQueue", "(II)V"⟩, 8) := ⟨⟨by decide +kernel, by decide +kernel⟩, List.mem_of_getElem? (i := 16) (by decide +kernel), List.mem_of_getElem? (i := 353) (by decide +kernel), List.mem_of_getElem? (i := 354) (by decide +kernel)⟩
theorem lw_p5 : lw_okq (⟨"TransitRows", "tellQueue", "(II)V"⟩, 8) := ⟨⟨by decide +kernel, by decide +kernel⟩, List.mem_of_getElem? (i := 16) (by decide +kernel), List.mem_of_getElem? (i := 361) (by decide +kernel), List.mem_of_getElem? (i := 362) (by decide +kernel)⟩
theorem lw_p6 : lw_okq (⟨"TransitRows", "dueDay", "(I)I"⟩, 8) := ⟨⟨by decide +kernel, by decide +kernel⟩, List.mem_of_getElem? (i := 16) (by decide +kernel), List.mem_of_getElem? (i := 401) (by decide +kernel), List.mem_of_getElem? (i := 402) (by decide +kernel)⟩
theorem lw_p7 : lw_okq (⟨"java/lang/Throwable", "fillInStackTrace", "(I)Ljava/lang/Throwable;"⟩, 6) := ⟨⟨by decide +kernel, by decide +kernel⟩, List.mem_of_getElem? (i := 471) (by decide +kernel), List.mem_of_getElem? (i := 469) (by decide +kernel), List.mem_of_getElem? (i := 470) (by decide +kernel)⟩
theorem lw_p8 : lw_okq (⟨"TransitRowsModel", "isPlace", "(I)Z"⟩, 17) := ⟨⟨by decide +kernel, by decide +kernel⟩, List.mem_of_getElem? (i := 501) (by decide +kernel), List.mem_of_getElem? (i := 571) (by decide +kernel), List.mem_of_getElem? (i := 572) (by decide +kernel)⟩
theorem lw_p9 : lw_okq (⟨"TransitRowsModel", "isRoute", "(I)Z"⟩, 17) := ⟨⟨by decide +kernel, by decide +kernel⟩, List.mem_of_getElem? (i := 501) (by decide +kernel), List.mem_of_getElem? (i := 583) (by decide +kernel), List.mem_of_getElem? (i := 584) (by decide +kernel)⟩
theorem lw_p10 : lw_okq (⟨"TransitRowsModel", "skipped", "(II)I"⟩, 17) := ⟨⟨by decide +kernel, by decide +kernel⟩, List.mem_of_getElem? (i := 501) (by decide +kernel), List.mem_of_getElem? (i := 591) (by decide +kernel), List.mem_of_getElem? (i := 592) (by decide +kernel)⟩
theorem lw_p11 : lw_okq (⟨"TransitRowsModel", "isCopy", "(I)Z"⟩, 17) := ⟨⟨by decide +kernel, by decide +kernel⟩, List.mem_of_getElem? (i := 501) (by decide +kernel), List.mem_of_getElem? (i := 603) (by decide +kernel), List.mem_of_getElem? (i := 604) (by decide +kernel)⟩
theorem lw_p12 : lw_okq (⟨"TransitRowsModel", "runs", "(II)Z"⟩, 17) := ⟨⟨by decide +kernel, by decide +kernel⟩, List.mem_of_getElem? (i := 501) (by decide +kernel), List.mem_of_getElem? (i := 615) (by decide +kernel), List.mem_of_getElem? (i := 616) (by decide +kernel)⟩
theorem lw_p13 : lw_okq (⟨"TransitRowsModel", "isSlip", "(I)Z"⟩, 17) := ⟨⟨by decide +kernel, by decide +kernel⟩, List.mem_of_getElem? (i := 501) (by decide +kernel), List.mem_of_getElem? (i := 623) (by decide +kernel), List.mem_of_getElem? (i := 624) (by decide +kernel)⟩
theorem lw_p14 : lw_okq (⟨"TransitRowsModel", "isIn", "(III)Z"⟩, 17) := ⟨⟨by decide +kernel, by decide +kernel⟩, List.mem_of_getElem? (i := 501) (by decide +kernel), List.mem_of_getElem? (i := 631) (by decide +kernel), List.mem_of_getElem? (i := 632) (by decide +kernel)⟩
theorem lw_p15 : lw_okq (⟨"TransitRowsModel", "isBefore", "(II)Z"⟩, 17) := ⟨⟨by decide +kernel, by decide +kernel⟩, List.mem_of_getElem? (i := 501) (by decide +kernel), List.mem_of_getElem? (i := 635) (by decide +kernel), List.mem_of_getElem? (i := 636) (by decide +kernel)⟩
def lw_privs_1 : List (MethodName × Nat) := [(⟨"TransitRows", "queueBin", "(II)V"⟩, 8), (⟨"TransitRows", "enqueue", "(I)V"⟩, 8), (⟨"TransitRows", "isBefore", "(II)Z"⟩, 8), (⟨"TransitRows", "queueDue", "(II)V"⟩, 8), (⟨"TransitRows", "takeFromQueue", "(II)V"⟩, 8), (⟨"TransitRows", "tellQueue", "(II)V"⟩, 8), (⟨"TransitRows", "dueDay", "(I)I"⟩, 8), (⟨"java/lang/Throwable", "fillInStackTrace", "(I)Ljava/lang/Throwable;"⟩, 6), (⟨"TransitRowsModel", "isPlace", "(I)Z"⟩, 17), (⟨"TransitRowsModel", "isRoute", "(I)Z"⟩, 17), (⟨"TransitRowsModel", "skipped", "(II)I"⟩, 17), (⟨"TransitRowsModel", "isCopy", "(I)Z"⟩, 17), (⟨"TransitRowsModel", "runs", "(II)Z"⟩, 17), (⟨"TransitRowsModel", "isSlip", "(I)Z"⟩, 17), (⟨"TransitRowsModel", "isIn", "(III)Z"⟩, 17), (⟨"TransitRowsModel", "isBefore", "(II)Z"⟩, 17)]
theorem lw_r1 : ∀ q ∈ lw_privs_1, lw_okq q := List.forall_mem_cons.mpr ⟨lw_p0, List.forall_mem_cons.mpr ⟨lw_p1, List.forall_mem_cons.mpr ⟨lw_p2, List.forall_mem_cons.mpr ⟨lw_p3, List.forall_mem_cons.mpr ⟨lw_p4, List.forall_mem_cons.mpr ⟨lw_p5, List.forall_mem_cons.mpr ⟨lw_p6, List.forall_mem_cons.mpr ⟨lw_p7, List.forall_mem_cons.mpr ⟨lw_p8, List.forall_mem_cons.mpr ⟨lw_p9, List.forall_mem_cons.mpr ⟨lw_p10, List.forall_mem_cons.mpr ⟨lw_p11, List.forall_mem_cons.mpr ⟨lw_p12, List.forall_mem_cons.mpr ⟨lw_p13, List.forall_mem_cons.mpr ⟨lw_p14, List.forall_mem_cons.mpr ⟨lw_p15, fun _ h => absurd h List.not_mem_nil⟩⟩⟩⟩⟩⟩⟩⟩⟩⟩⟩⟩⟩⟩⟩⟩
theorem lw_p16 : lw_okq (⟨"TransitRowsModel", "put", "(II)V"⟩, 17) := ⟨⟨by decide +kernel, by decide +kernel⟩, List.mem_of_getElem? (i := 501) (by decide +kernel), List.mem_of_getElem? (i := 643) (by decide +kernel), List.mem_of_getElem? (i := 644) (by decide +kernel)⟩
theorem lw_p17 : lw_okq (⟨"TransitRowsModel", "tell", "(II)V"⟩, 17) := ⟨⟨by decide +kernel, by decide +kernel⟩, List.mem_of_getElem? (i := 501) (by decide +kernel), List.mem_of_getElem? (i := 647) (by decide +kernel), List.mem_of_getElem? (i := 648) (by decide +kernel)⟩
def lw_privs_2 : List (MethodName × Nat) := [(⟨"TransitRowsModel", "put", "(II)V"⟩, 17), (⟨"TransitRowsModel", "tell", "(II)V"⟩, 17)]
theorem lw_r2 : ∀ q ∈ lw_privs_2, lw_okq q := List.forall_mem_cons.mpr ⟨lw_p16, List.forall_mem_cons.mpr ⟨lw_p17, fun _ h => absurd h List.not_mem_nil⟩⟩
def lw_privs : List (MethodName × Nat) := lw_privs_1 ++ (lw_privs_2)
def lw_tbl : List Cond := k2_sels lw_privs ++ tables_1
theorem lw_privs_ok : ∀ q ∈ lw_privs, lw_okq q := by
  show ∀ q ∈ lw_privs_1 ++ (lw_privs_2), lw_okq q
  exact List.forall_mem_append.mpr ⟨lw_r1, lw_r2⟩
end
section
/-- the words of the tables that any step keeps -/
def gt_ : List Cond := lw_tbl.filter goodWord
theorem gt_good : GoodIn gt_ gt_ := fun w h => ⟨h, good_of_word (List.mem_filter.mp h).2⟩
theorem gt_i (i : Nat) {w : Cond} (h : tables_1[i]? = some w) (g : goodWord w = true) : w ∈ gt_ := List.mem_filter.mpr ⟨List.mem_append_right _ (List.mem_of_getElem? h), g⟩
theorem gt_s (i : Nat) {w : Cond} (h : (k2_sels lw_privs)[i]? = some w) (g : goodWord w = true) : w ∈ gt_ := List.mem_filter.mpr ⟨List.mem_append_left _ (List.mem_of_getElem? h), g⟩
theorem gt_V {own C : String} {index : Nat} {y : MethodName} {w : Cond} (h1 : Cond.methodLink own index y ∈ gt_) (h2 : Cond.instanceMethod y ∈ gt_) (h3 : Cond.selects C y y ∈ gt_) (h4 : Cond.initialized C ∈ gt_) (h5 : w ∈ gt_) : GoodIn gt_ (wsV own index C y (w :: gt_)) := fun v hv => by
  have hm : v ∈ gt_ := by
    simp only [wsV, List.cons_append, List.nil_append, List.mem_cons] at hv
    rcases hv with rfl | rfl | rfl | rfl | rfl | hv
    · exact h1
    · exact h2
    · exact h3
    · exact h4
    · exact h5
    · exact hv
  exact gt_good v hm
theorem gt_S {own : String} {index : Nat} {y : MethodName} {w : Cond} (h1 : Cond.methodLink own index y ∈ gt_) (h2 : Cond.static y ∈ gt_) (h4 : Cond.initialized own ∈ gt_) (h5 : w ∈ gt_) : GoodIn gt_ (wsS own index y (w :: gt_)) := fun v hv => by
  have hm : v ∈ gt_ := by
    simp only [wsS, List.cons_append, List.nil_append, List.mem_cons] at hv
    rcases hv with rfl | rfl | rfl | rfl | hv
    · exact h1
    · exact h2
    · exact h4
    · exact h5
    · exact hv
  exact gt_good v hm
theorem gt_C {w : Cond} (h5 : w ∈ gt_) : GoodIn gt_ (w :: gt_) := fun v hv => by
  have hm : v ∈ gt_ := by
    simp only [List.mem_cons] at hv
    rcases hv with rfl | hv
    · exact h5
    · exact hv
  exact gt_good v hm
def F_cp : u_T := fun k => match k with
  | 0 => ("TransitRows$Copies", "home", "[I", true)
  | 1 => ("TransitRows$Copies", "stand", "[I", true)
  | 2 => ("TransitRows$Copies", "slip", "[I", true)
  | 3 => ("TransitRows$Copies", "isPriority", "[Z", true)
  | 4 => ("TransitRows$Copies", "isFloating", "[Z", true)
  | _ => ("TransitRows$Copies", "count", "I", false)
def t_cp : Nat → FieldType := fun k => match k with
  | 0 => .array .int
  | 1 => .array .int
  | 2 => .array .int
  | 3 => .array .boolean
  | 4 => .array .boolean
  | _ => .int
theorem n_cp : ∀ a, a < 6 → ∀ b, b < 6 → a ≠ b → (F_cp a).2.1 ≠ (F_cp b).2.1 := by decide +kernel
theorem t_cp_ok : ∀ k, k < 6 → parseFieldDescriptor (F_cp k).2.2.1 = some (t_cp k) := by decide +kernel
theorem i_cp : ∀ w ∈ u_ws "TransitRows$Copies" F_cp 6, w ∈ gt_ := by decide +kernel
def F_lo : u_T := fun k => match k with
  | 0 => ("TransitRows$LeftOut", "route", "[I", true)
  | 1 => ("TransitRows$LeftOut", "day", "[I", true)
  | _ => ("TransitRows$LeftOut", "count", "I", false)
def t_lo : Nat → FieldType := fun k => match k with
  | 0 => .array .int
  | 1 => .array .int
  | _ => .int
theorem n_lo : ∀ a, a < 3 → ∀ b, b < 3 → a ≠ b → (F_lo a).2.1 ≠ (F_lo b).2.1 := by decide +kernel
theorem t_lo_ok : ∀ k, k < 3 → parseFieldDescriptor (F_lo k).2.2.1 = some (t_lo k) := by decide +kernel
theorem i_lo : ∀ w ∈ u_ws "TransitRows$LeftOut" F_lo 3, w ∈ gt_ := by decide +kernel
def F_ld : u_T := fun k => match k with
  | 0 => ("TransitRows$Loads", "end", "[I", true)
  | 1 => ("TransitRows$Loads", "cargo", "[I", true)
  | _ => ("TransitRows$Loads", "count", "I", false)
def t_ld : Nat → FieldType := fun k => match k with
  | 0 => .array .int
  | 1 => .array .int
  | _ => .int
theorem n_ld : ∀ a, a < 3 → ∀ b, b < 3 → a ≠ b → (F_ld a).2.1 ≠ (F_ld b).2.1 := by decide +kernel
theorem t_ld_ok : ∀ k, k < 3 → parseFieldDescriptor (F_ld k).2.2.1 = some (t_ld k) := by decide +kernel
theorem i_ld : ∀ w ∈ u_ws "TransitRows$Loads" F_ld 3, w ∈ gt_ := by decide +kernel
def F_pl : u_T := fun k => match k with
  | 0 => ("TransitRows$Places", "isOpen", "[Z", true)
  | _ => ("TransitRows$Places", "count", "I", false)
def t_pl : Nat → FieldType := fun k => match k with
  | 0 => .array .boolean
  | _ => .int
theorem n_pl : ∀ a, a < 2 → ∀ b, b < 2 → a ≠ b → (F_pl a).2.1 ≠ (F_pl b).2.1 := by decide +kernel
theorem t_pl_ok : ∀ k, k < 2 → parseFieldDescriptor (F_pl k).2.2.1 = some (t_pl k) := by decide +kernel
theorem i_pl : ∀ w ∈ u_ws "TransitRows$Places" F_pl 2, w ∈ gt_ := by decide +kernel
def F_ro : u_T := fun k => match k with
  | 0 => ("TransitRows$Routes", "from", "[I", true)
  | 1 => ("TransitRows$Routes", "to", "[I", true)
  | 2 => ("TransitRows$Routes", "mask", "[I", true)
  | 3 => ("TransitRows$Routes", "duration", "[I", true)
  | 4 => ("TransitRows$Routes", "room", "[I", true)
  | 5 => ("TransitRows$Routes", "lastLoad", "[I", true)
  | 6 => ("TransitRows$Routes", "leftOut", "LTransitRows$LeftOut;", true)
  | _ => ("TransitRows$Routes", "count", "I", false)
def t_ro : Nat → FieldType := fun k => match k with
  | 0 => .array .int
  | 1 => .array .int
  | 2 => .array .int
  | 3 => .array .int
  | 4 => .array .int
  | 5 => .array .int
  | 6 => .object "TransitRows$LeftOut"
  | _ => .int
theorem n_ro : ∀ a, a < 8 → ∀ b, b < 8 → a ≠ b → (F_ro a).2.1 ≠ (F_ro b).2.1 := by decide +kernel
theorem t_ro_ok : ∀ k, k < 8 → parseFieldDescriptor (F_ro k).2.2.1 = some (t_ro k) := by decide +kernel
theorem i_ro : ∀ w ∈ u_ws "TransitRows$Routes" F_ro 8, w ∈ gt_ := by decide +kernel
def F_sl : u_T := fun k => match k with
  | 0 => ("TransitRows$Slips", "copy", "[I", true)
  | 1 => ("TransitRows$Slips", "route", "[I", true)
  | 2 => ("TransitRows$Slips", "state", "[I", true)
  | 3 => ("TransitRows$Slips", "sent", "[I", true)
  | 4 => ("TransitRows$Slips", "goes", "[I", true)
  | 5 => ("TransitRows$Slips", "came", "[I", true)
  | _ => ("TransitRows$Slips", "count", "I", false)
def t_sl : Nat → FieldType := fun k => match k with
  | 0 => .array .int
  | 1 => .array .int
  | 2 => .array .int
  | 3 => .array .int
  | 4 => .array .int
  | 5 => .array .int
  | _ => .int
theorem n_sl : ∀ a, a < 7 → ∀ b, b < 7 → a ≠ b → (F_sl a).2.1 ≠ (F_sl b).2.1 := by decide +kernel
theorem t_sl_ok : ∀ k, k < 7 → parseFieldDescriptor (F_sl k).2.2.1 = some (t_sl k) := by decide +kernel
theorem i_sl : ∀ w ∈ u_ws "TransitRows$Slips" F_sl 7, w ∈ gt_ := by decide +kernel
def F_te : u_T := fun k => match k with
  | 0 => ("TransitRows$Tellings", "reason", "[I", true)
  | 1 => ("TransitRows$Tellings", "slip", "[I", true)
  | _ => ("TransitRows$Tellings", "count", "I", false)
def t_te : Nat → FieldType := fun k => match k with
  | 0 => .array .int
  | 1 => .array .int
  | _ => .int
theorem n_te : ∀ a, a < 3 → ∀ b, b < 3 → a ≠ b → (F_te a).2.1 ≠ (F_te b).2.1 := by decide +kernel
theorem t_te_ok : ∀ k, k < 3 → parseFieldDescriptor (F_te k).2.2.1 = some (t_te k) := by decide +kernel
theorem i_te : ∀ w ∈ u_ws "TransitRows$Tellings" F_te 3, w ∈ gt_ := by decide +kernel
def F_tr : u_T := fun k => match k with
  | 0 => ("TransitRows", "places", "LTransitRows$Places;", true)
  | 1 => ("TransitRows", "routes", "LTransitRows$Routes;", true)
  | 2 => ("TransitRows", "copies", "LTransitRows$Copies;", true)
  | 3 => ("TransitRows", "slips", "LTransitRows$Slips;", true)
  | 4 => ("TransitRows", "loads", "LTransitRows$Loads;", true)
  | 5 => ("TransitRows", "tellings", "LTransitRows$Tellings;", true)
  | 6 => ("TransitRows", "queue", "[I", true)
  | _ => ("TransitRows", "queued", "I", false)
def t_tr : Nat → FieldType := fun k => match k with
  | 0 => .object "TransitRows$Places"
  | 1 => .object "TransitRows$Routes"
  | 2 => .object "TransitRows$Copies"
  | 3 => .object "TransitRows$Slips"
  | 4 => .object "TransitRows$Loads"
  | 5 => .object "TransitRows$Tellings"
  | 6 => .array .int
  | _ => .int
theorem n_tr : ∀ a, a < 8 → ∀ b, b < 8 → a ≠ b → (F_tr a).2.1 ≠ (F_tr b).2.1 := by decide +kernel
theorem t_tr_ok : ∀ k, k < 8 → parseFieldDescriptor (F_tr k).2.2.1 = some (t_tr k) := by decide +kernel
theorem i_tr : ∀ w ∈ u_ws "TransitRows" F_tr 8, w ∈ gt_ := by decide +kernel
def F_mo : u_T := fun k => match k with
  | 0 => ("TransitRowsModel", "thrown", "I", false)
  | 1 => ("TransitRowsModel", "places", "I", false)
  | 2 => ("TransitRowsModel", "shut", "[Z", true)
  | 3 => ("TransitRowsModel", "routes", "I", false)
  | 4 => ("TransitRowsModel", "route", "[I", true)
  | 5 => ("TransitRowsModel", "skipRoute", "[I", true)
  | 6 => ("TransitRowsModel", "skipDay", "[I", true)
  | 7 => ("TransitRowsModel", "skips", "I", false)
  | 8 => ("TransitRowsModel", "copies", "I", false)
  | 9 => ("TransitRowsModel", "copy", "[I", true)
  | 10 => ("TransitRowsModel", "first", "[Z", true)
  | 11 => ("TransitRowsModel", "floats", "[Z", true)
  | 12 => ("TransitRowsModel", "slips", "I", false)
  | 13 => ("TransitRowsModel", "slip", "[I", true)
  | 14 => ("TransitRowsModel", "loads", "I", false)
  | 15 => ("TransitRowsModel", "told", "[I", true)
  | _ => ("TransitRowsModel", "tolds", "I", false)
def t_mo : Nat → FieldType := fun k => match k with
  | 0 => .int
  | 1 => .int
  | 2 => .array .boolean
  | 3 => .int
  | 4 => .array .int
  | 5 => .array .int
  | 6 => .array .int
  | 7 => .int
  | 8 => .int
  | 9 => .array .int
  | 10 => .array .boolean
  | 11 => .array .boolean
  | 12 => .int
  | 13 => .array .int
  | 14 => .int
  | 15 => .array .int
  | _ => .int
theorem n_mo : ∀ a, a < 17 → ∀ b, b < 17 → a ≠ b → (F_mo a).2.1 ≠ (F_mo b).2.1 := by decide +kernel
theorem t_mo_ok : ∀ k, k < 17 → parseFieldDescriptor (F_mo k).2.2.1 = some (t_mo k) := by decide +kernel
theorem i_mo : ∀ w ∈ u_ws "TransitRowsModel" F_mo 17, w ∈ gt_ := by decide +kernel
abbrev cls_ : List vw_C := [("TransitRows$Copies", F_cp, 6), ("TransitRows$LeftOut", F_lo, 3), ("TransitRows$Loads", F_ld, 3), ("TransitRows$Places", F_pl, 2), ("TransitRows$Routes", F_ro, 8), ("TransitRows$Slips", F_sl, 7), ("TransitRows$Tellings", F_te, 3), ("TransitRows", F_tr, 8), ("TransitRowsModel", F_mo, 17)]
def y_tr_init : MethodName := ⟨"TransitRows", "<init>", "()V"⟩
abbrev b_tr_init : ByteArray := prog_1_method_1_code
theorem k_tr_init : Cond.code y_tr_init b_tr_init 1 none ∈ gt_ := gt_i 19 (by decide +kernel) (by decide +kernel)
def y_pl_init : MethodName := ⟨"TransitRows$Places", "<init>", "()V"⟩
abbrev b_pl_init : ByteArray := prog_5_method_1_code
theorem k_pl_init : Cond.code y_pl_init b_pl_init 1 none ∈ gt_ := gt_i 27 (by decide +kernel) (by decide +kernel)
def y_ro_init : MethodName := ⟨"TransitRows$Routes", "<init>", "()V"⟩
abbrev b_ro_init : ByteArray := prog_6_method_1_code
theorem k_ro_init : Cond.code y_ro_init b_ro_init 1 none ∈ gt_ := gt_i 42 (by decide +kernel) (by decide +kernel)
def y_lo_init : MethodName := ⟨"TransitRows$LeftOut", "<init>", "()V"⟩
abbrev b_lo_init : ByteArray := prog_3_method_1_code
theorem k_lo_init : Cond.code y_lo_init b_lo_init 1 none ∈ gt_ := gt_i 48 (by decide +kernel) (by decide +kernel)
def y_cp_init : MethodName := ⟨"TransitRows$Copies", "<init>", "()V"⟩
abbrev b_cp_init : ByteArray := prog_2_method_1_code
theorem k_cp_init : Cond.code y_cp_init b_cp_init 1 none ∈ gt_ := gt_i 95 (by decide +kernel) (by decide +kernel)
def y_sl_init : MethodName := ⟨"TransitRows$Slips", "<init>", "()V"⟩
abbrev b_sl_init : ByteArray := prog_7_method_1_code
theorem k_sl_init : Cond.code y_sl_init b_sl_init 1 none ∈ gt_ := gt_i 125 (by decide +kernel) (by decide +kernel)
def y_ld_init : MethodName := ⟨"TransitRows$Loads", "<init>", "()V"⟩
abbrev b_ld_init : ByteArray := prog_4_method_1_code
theorem k_ld_init : Cond.code y_ld_init b_ld_init 1 none ∈ gt_ := gt_i 160 (by decide +kernel) (by decide +kernel)
def y_te_init : MethodName := ⟨"TransitRows$Tellings", "<init>", "()V"⟩
abbrev b_te_init : ByteArray := prog_8_method_1_code
theorem k_te_init : Cond.code y_te_init b_te_init 1 none ∈ gt_ := gt_i 177 (by decide +kernel) (by decide +kernel)
def y_tr_place : MethodName := ⟨"TransitRows", "place", "()I"⟩
abbrev b_tr_place : ByteArray := prog_1_method_2_code
theorem k_tr_place : Cond.code y_tr_place b_tr_place 1 (some .int) ∈ gt_ := gt_i 219 (by decide +kernel) (by decide +kernel)
def y_pl_add : MethodName := ⟨"TransitRows$Places", "add", "()I"⟩
abbrev b_pl_add : ByteArray := prog_5_method_3_code
theorem k_pl_add : Cond.code y_pl_add b_pl_add 1 (some .int) ∈ gt_ := gt_i 223 (by decide +kernel) (by decide +kernel)
def y_tr_open : MethodName := ⟨"TransitRows", "open", "(IZ)Z"⟩
abbrev b_tr_open : ByteArray := prog_1_method_3_code
theorem k_tr_open : Cond.code y_tr_open b_tr_open 4 (some .boolean) ∈ gt_ := gt_i 227 (by decide +kernel) (by decide +kernel)
def y_pl_has : MethodName := ⟨"TransitRows$Places", "has", "(I)Z"⟩
abbrev b_pl_has : ByteArray := prog_5_method_2_code
theorem k_pl_has : Cond.code y_pl_has b_pl_has 2 (some .boolean) ∈ gt_ := gt_i 231 (by decide +kernel) (by decide +kernel)
def y_tr_route : MethodName := ⟨"TransitRows", "route", "(IIIII)I"⟩
abbrev b_tr_route : ByteArray := prog_1_method_4_code
theorem k_tr_route : Cond.code y_tr_route b_tr_route 6 (some .int) ∈ gt_ := gt_i 235 (by decide +kernel) (by decide +kernel)
def y_ro_add : MethodName := ⟨"TransitRows$Routes", "add", "(IIIII)I"⟩
abbrev b_ro_add : ByteArray := prog_6_method_3_code
theorem k_ro_add : Cond.code y_ro_add b_ro_add 6 (some .int) ∈ gt_ := gt_i 239 (by decide +kernel) (by decide +kernel)
def y_tr_skip : MethodName := ⟨"TransitRows", "skip", "(IIZ)Z"⟩
abbrev b_tr_skip : ByteArray := prog_1_method_5_code
theorem k_tr_skip : Cond.code y_tr_skip b_tr_skip 4 (some .boolean) ∈ gt_ := gt_i 243 (by decide +kernel) (by decide +kernel)
def y_ro_has : MethodName := ⟨"TransitRows$Routes", "has", "(I)Z"⟩
abbrev b_ro_has : ByteArray := prog_6_method_2_code
theorem k_ro_has : Cond.code y_ro_has b_ro_has 2 (some .boolean) ∈ gt_ := gt_i 247 (by decide +kernel) (by decide +kernel)
def y_tr_isDay : MethodName := ⟨"TransitRows", "isDay", "(I)Z"⟩
abbrev b_tr_isDay : ByteArray := prog_1_method_21_code
theorem k_tr_isDay : Cond.code y_tr_isDay b_tr_isDay 1 (some .boolean) ∈ gt_ := gt_i 250 (by decide +kernel) (by decide +kernel)
def y_lo_add : MethodName := ⟨"TransitRows$LeftOut", "add", "(II)Z"⟩
abbrev b_lo_add : ByteArray := prog_3_method_3_code
theorem k_lo_add : Cond.code y_lo_add b_lo_add 3 (some .boolean) ∈ gt_ := gt_i 255 (by decide +kernel) (by decide +kernel)
def y_lo_find : MethodName := ⟨"TransitRows$LeftOut", "find", "(II)I"⟩
abbrev b_lo_find : ByteArray := prog_3_method_2_code
theorem k_lo_find : Cond.code y_lo_find b_lo_find 4 (some .int) ∈ gt_ := gt_i 259 (by decide +kernel) (by decide +kernel)
def y_lo_remove : MethodName := ⟨"TransitRows$LeftOut", "remove", "(II)Z"⟩
abbrev b_lo_remove : ByteArray := prog_3_method_4_code
theorem k_lo_remove : Cond.code y_lo_remove b_lo_remove 4 (some .boolean) ∈ gt_ := gt_i 263 (by decide +kernel) (by decide +kernel)
def y_tr_copy : MethodName := ⟨"TransitRows", "copy", "(I)I"⟩
abbrev b_tr_copy : ByteArray := prog_1_method_6_code
theorem k_tr_copy : Cond.code y_tr_copy b_tr_copy 2 (some .int) ∈ gt_ := gt_i 267 (by decide +kernel) (by decide +kernel)
def y_cp_add : MethodName := ⟨"TransitRows$Copies", "add", "(I)I"⟩
abbrev b_cp_add : ByteArray := prog_2_method_3_code
theorem k_cp_add : Cond.code y_cp_add b_cp_add 2 (some .int) ∈ gt_ := gt_i 271 (by decide +kernel) (by decide +kernel)
def y_tr_priority : MethodName := ⟨"TransitRows", "priority", "(IZ)Z"⟩
abbrev b_tr_priority : ByteArray := prog_1_method_7_code
theorem k_tr_priority : Cond.code y_tr_priority b_tr_priority 4 (some .boolean) ∈ gt_ := gt_i 275 (by decide +kernel) (by decide +kernel)
def y_cp_has : MethodName := ⟨"TransitRows$Copies", "has", "(I)Z"⟩
abbrev b_cp_has : ByteArray := prog_2_method_2_code
theorem k_cp_has : Cond.code y_cp_has b_cp_has 2 (some .boolean) ∈ gt_ := gt_i 279 (by decide +kernel) (by decide +kernel)
def y_tr_floats : MethodName := ⟨"TransitRows", "floats", "(IZ)Z"⟩
abbrev b_tr_floats : ByteArray := prog_1_method_8_code
theorem k_tr_floats : Cond.code y_tr_floats b_tr_floats 4 (some .boolean) ∈ gt_ := gt_i 283 (by decide +kernel) (by decide +kernel)
def y_tr_send : MethodName := ⟨"TransitRows", "send", "(III)I"⟩
abbrev b_tr_send : ByteArray := prog_1_method_9_code
theorem k_tr_send : Cond.code y_tr_send b_tr_send 7 (some .int) ∈ gt_ := gt_i 287 (by decide +kernel) (by decide +kernel)
def y_ro_findQuickest : MethodName := ⟨"TransitRows$Routes", "findQuickest", "(III)I"⟩
abbrev b_ro_findQuickest : ByteArray := prog_6_method_7_code
theorem k_ro_findQuickest : Cond.code y_ro_findQuickest b_ro_findQuickest 8 (some .int) ∈ gt_ := gt_i 291 (by decide +kernel) (by decide +kernel)
def y_ro_joins : MethodName := ⟨"TransitRows$Routes", "joins", "(III)Z"⟩
abbrev b_ro_joins : ByteArray := prog_6_method_4_code
theorem k_ro_joins : Cond.code y_ro_joins b_ro_joins 4 (some .boolean) ∈ gt_ := gt_i 295 (by decide +kernel) (by decide +kernel)
def y_ro_firstRun : MethodName := ⟨"TransitRows$Routes", "firstRun", "(II)I"⟩
abbrev b_ro_firstRun : ByteArray := prog_6_method_6_code
theorem k_ro_firstRun : Cond.code y_ro_firstRun b_ro_firstRun 4 (some .int) ∈ gt_ := gt_i 299 (by decide +kernel) (by decide +kernel)
def y_ro_runsOn : MethodName := ⟨"TransitRows$Routes", "runsOn", "(II)Z"⟩
abbrev b_ro_runsOn : ByteArray := prog_6_method_5_code
theorem k_ro_runsOn : Cond.code y_ro_runsOn b_ro_runsOn 4 (some .boolean) ∈ gt_ := gt_i 304 (by decide +kernel) (by decide +kernel)
def y_sl_add : MethodName := ⟨"TransitRows$Slips", "add", "(IIII)I"⟩
abbrev b_sl_add : ByteArray := prog_7_method_3_code
theorem k_sl_add : Cond.code y_sl_add b_sl_add 5 (some .int) ∈ gt_ := gt_i 310 (by decide +kernel) (by decide +kernel)
def y_tr_back : MethodName := ⟨"TransitRows", "back", "(I)I"⟩
abbrev b_tr_back : ByteArray := prog_1_method_10_code
theorem k_tr_back : Cond.code y_tr_back b_tr_back 2 (some .int) ∈ gt_ := gt_i 314 (by decide +kernel) (by decide +kernel)
def y_sl_has : MethodName := ⟨"TransitRows$Slips", "has", "(I)Z"⟩
abbrev b_sl_has : ByteArray := prog_7_method_2_code
theorem k_sl_has : Cond.code y_sl_has b_sl_has 2 (some .boolean) ∈ gt_ := gt_i 318 (by decide +kernel) (by decide +kernel)
def y_tr_bin : MethodName := ⟨"TransitRows", "bin", "(III)I"⟩
abbrev b_tr_bin : ByteArray := prog_1_method_11_code
theorem k_tr_bin : Cond.code y_tr_bin b_tr_bin 4 (some .int) ∈ gt_ := gt_i 322 (by decide +kernel) (by decide +kernel)
def y_tr_queueBin : MethodName := ⟨"TransitRows", "queueBin", "(II)V"⟩
abbrev b_tr_queueBin : ByteArray := prog_1_method_24_code
theorem k_tr_queueBin : Cond.code y_tr_queueBin b_tr_queueBin 4 none ∈ gt_ := gt_i 326 (by decide +kernel) (by decide +kernel)
def y_tr_enqueue : MethodName := ⟨"TransitRows", "enqueue", "(I)V"⟩
abbrev b_tr_enqueue : ByteArray := prog_1_method_26_code
theorem k_tr_enqueue : Cond.code y_tr_enqueue b_tr_enqueue 3 none ∈ gt_ := gt_i 331 (by decide +kernel) (by decide +kernel)
def y_tr_isBefore : MethodName := ⟨"TransitRows", "isBefore", "(II)Z"⟩
abbrev b_tr_isBefore : ByteArray := prog_1_method_27_code
theorem k_tr_isBefore : Cond.code y_tr_isBefore b_tr_isBefore 4 (some .boolean) ∈ gt_ := gt_i 335 (by decide +kernel) (by decide +kernel)
def y_tr_load : MethodName := ⟨"TransitRows", "load", "(II)I"⟩
abbrev b_tr_load : ByteArray := prog_1_method_12_code
theorem k_tr_load : Cond.code y_tr_load b_tr_load 5 (some .int) ∈ gt_ := gt_i 339 (by decide +kernel) (by decide +kernel)
def y_ld_begin : MethodName := ⟨"TransitRows$Loads", "begin", "()I"⟩
abbrev b_ld_begin : ByteArray := prog_4_method_3_code
theorem k_ld_begin : Cond.code y_ld_begin b_ld_begin 1 (some .int) ∈ gt_ := gt_i 344 (by decide +kernel) (by decide +kernel)
def y_tr_queueDue : MethodName := ⟨"TransitRows", "queueDue", "(II)V"⟩
abbrev b_tr_queueDue : ByteArray := prog_1_method_25_code
theorem k_tr_queueDue : Cond.code y_tr_queueDue b_tr_queueDue 5 none ∈ gt_ := gt_i 348 (by decide +kernel) (by decide +kernel)
def y_tr_takeFromQueue : MethodName := ⟨"TransitRows", "takeFromQueue", "(II)V"⟩
abbrev b_tr_takeFromQueue : ByteArray := prog_1_method_28_code
theorem k_tr_takeFromQueue : Cond.code y_tr_takeFromQueue b_tr_takeFromQueue 5 none ∈ gt_ := gt_i 355 (by decide +kernel) (by decide +kernel)
def y_ld_put : MethodName := ⟨"TransitRows$Loads", "put", "(I)V"⟩
abbrev b_ld_put : ByteArray := prog_4_method_4_code
theorem k_ld_put : Cond.code y_ld_put b_ld_put 2 none ∈ gt_ := gt_i 359 (by decide +kernel) (by decide +kernel)
def y_tr_tellQueue : MethodName := ⟨"TransitRows", "tellQueue", "(II)V"⟩
abbrev b_tr_tellQueue : ByteArray := prog_1_method_29_code
theorem k_tr_tellQueue : Cond.code y_tr_tellQueue b_tr_tellQueue 4 none ∈ gt_ := gt_i 363 (by decide +kernel) (by decide +kernel)
def y_te_add : MethodName := ⟨"TransitRows$Tellings", "add", "(II)V"⟩
abbrev b_te_add : ByteArray := prog_8_method_3_code
theorem k_te_add : Cond.code y_te_add b_te_add 3 none ∈ gt_ := gt_i 367 (by decide +kernel) (by decide +kernel)
def y_tr_loaded : MethodName := ⟨"TransitRows", "loaded", "(II)I"⟩
abbrev b_tr_loaded : ByteArray := prog_1_method_13_code
theorem k_tr_loaded : Cond.code y_tr_loaded b_tr_loaded 3 (some .int) ∈ gt_ := gt_i 371 (by decide +kernel) (by decide +kernel)
def y_ld_has : MethodName := ⟨"TransitRows$Loads", "has", "(I)Z"⟩
abbrev b_ld_has : ByteArray := prog_4_method_2_code
theorem k_ld_has : Cond.code y_ld_has b_ld_has 2 (some .boolean) ∈ gt_ := gt_i 375 (by decide +kernel) (by decide +kernel)
def y_ld_size : MethodName := ⟨"TransitRows$Loads", "size", "(I)I"⟩
abbrev b_ld_size : ByteArray := prog_4_method_5_code
theorem k_ld_size : Cond.code y_ld_size b_ld_size 2 (some .int) ∈ gt_ := gt_i 379 (by decide +kernel) (by decide +kernel)
def y_ld_slipAt : MethodName := ⟨"TransitRows$Loads", "slipAt", "(II)I"⟩
abbrev b_ld_slipAt : ByteArray := prog_4_method_6_code
theorem k_ld_slipAt : Cond.code y_ld_slipAt b_ld_slipAt 3 (some .int) ∈ gt_ := gt_i 383 (by decide +kernel) (by decide +kernel)
def y_tr_missing : MethodName := ⟨"TransitRows", "missing", "(II)I"⟩
abbrev b_tr_missing : ByteArray := prog_1_method_14_code
theorem k_tr_missing : Cond.code y_tr_missing b_tr_missing 6 (some .int) ∈ gt_ := gt_i 387 (by decide +kernel) (by decide +kernel)
def y_sl_isUnderWay : MethodName := ⟨"TransitRows$Slips", "isUnderWay", "(I)Z"⟩
abbrev b_sl_isUnderWay : ByteArray := prog_7_method_4_code
theorem k_sl_isUnderWay : Cond.code y_sl_isUnderWay b_sl_isUnderWay 2 (some .boolean) ∈ gt_ := gt_i 391 (by decide +kernel) (by decide +kernel)
def y_tr_arrive : MethodName := ⟨"TransitRows", "arrive", "(III)I"⟩
abbrev b_tr_arrive : ByteArray := prog_1_method_15_code
theorem k_tr_arrive : Cond.code y_tr_arrive b_tr_arrive 6 (some .int) ∈ gt_ := gt_i 395 (by decide +kernel) (by decide +kernel)
def y_tr_lost : MethodName := ⟨"TransitRows", "lost", "(I)I"⟩
abbrev b_tr_lost : ByteArray := prog_1_method_16_code
theorem k_tr_lost : Cond.code y_tr_lost b_tr_lost 4 (some .int) ∈ gt_ := gt_i 399 (by decide +kernel) (by decide +kernel)
def y_tr_dueDay : MethodName := ⟨"TransitRows", "dueDay", "(I)I"⟩
abbrev b_tr_dueDay : ByteArray := prog_1_method_23_code
theorem k_tr_dueDay : Cond.code y_tr_dueDay b_tr_dueDay 2 (some .int) ∈ gt_ := gt_i 403 (by decide +kernel) (by decide +kernel)
def y_tr_slip : MethodName := ⟨"TransitRows", "slip", "(II)I"⟩
abbrev b_tr_slip : ByteArray := prog_1_method_17_code
theorem k_tr_slip : Cond.code y_tr_slip b_tr_slip 3 (some .int) ∈ gt_ := gt_i 407 (by decide +kernel) (by decide +kernel)
def y_tr_where : MethodName := ⟨"TransitRows", "where", "(II)I"⟩
abbrev b_tr_where : ByteArray := prog_1_method_18_code
theorem k_tr_where : Cond.code y_tr_where b_tr_where 3 (some .int) ∈ gt_ := gt_i 411 (by decide +kernel) (by decide +kernel)
def y_tr_told : MethodName := ⟨"TransitRows", "told", "(II)I"⟩
abbrev b_tr_told : ByteArray := prog_1_method_20_code
theorem k_tr_told : Cond.code y_tr_told b_tr_told 3 (some .int) ∈ gt_ := gt_i 415 (by decide +kernel) (by decide +kernel)
def y_te_has : MethodName := ⟨"TransitRows$Tellings", "has", "(I)Z"⟩
abbrev b_te_has : ByteArray := prog_8_method_2_code
theorem k_te_has : Cond.code y_te_has b_te_has 2 (some .boolean) ∈ gt_ := gt_i 419 (by decide +kernel) (by decide +kernel)
def y_tr_statistics : MethodName := ⟨"TransitRows", "statistics", "(III)I"⟩
abbrev b_tr_statistics : ByteArray := prog_1_method_19_code
theorem k_tr_statistics : Cond.code y_tr_statistics b_tr_statistics 9 (some .int) ∈ gt_ := gt_i 427 (by decide +kernel) (by decide +kernel)
def y_tr_average : MethodName := ⟨"TransitRows", "average", "(II)I"⟩
abbrev b_tr_average : ByteArray := prog_1_method_22_code
theorem k_tr_average : Cond.code y_tr_average b_tr_average 2 (some .int) ∈ gt_ := gt_i 433 (by decide +kernel) (by decide +kernel)
def y_mo_init : MethodName := ⟨"TransitRowsModel", "<init>", "()V"⟩
abbrev b_mo_init : ByteArray := prog_10_method_1_code
theorem k_mo_init : Cond.code y_mo_init b_mo_init 1 none ∈ gt_ := gt_i 504 (by decide +kernel) (by decide +kernel)
def y_mo_thrown : MethodName := ⟨"TransitRowsModel", "thrown", "()I"⟩
abbrev b_mo_thrown : ByteArray := prog_10_method_2_code
theorem k_mo_thrown : Cond.code y_mo_thrown b_mo_thrown 1 (some .int) ∈ gt_ := gt_i 561 (by decide +kernel) (by decide +kernel)
def y_mo_place : MethodName := ⟨"TransitRowsModel", "place", "()I"⟩
abbrev b_mo_place : ByteArray := prog_10_method_8_code
theorem k_mo_place : Cond.code y_mo_place b_mo_place 1 (some .int) ∈ gt_ := gt_i 565 (by decide +kernel) (by decide +kernel)
def y_mo_open : MethodName := ⟨"TransitRowsModel", "open", "(IZ)Z"⟩
abbrev b_mo_open : ByteArray := prog_10_method_9_code
theorem k_mo_open : Cond.code y_mo_open b_mo_open 4 (some .boolean) ∈ gt_ := gt_i 569 (by decide +kernel) (by decide +kernel)
def y_mo_isPlace : MethodName := ⟨"TransitRowsModel", "isPlace", "(I)Z"⟩
abbrev b_mo_isPlace : ByteArray := prog_10_method_3_code
theorem k_mo_isPlace : Cond.code y_mo_isPlace b_mo_isPlace 2 (some .boolean) ∈ gt_ := gt_i 573 (by decide +kernel) (by decide +kernel)
def y_mo_route : MethodName := ⟨"TransitRowsModel", "route", "(IIIII)I"⟩
abbrev b_mo_route : ByteArray := prog_10_method_10_code
theorem k_mo_route : Cond.code y_mo_route b_mo_route 7 (some .int) ∈ gt_ := gt_i 577 (by decide +kernel) (by decide +kernel)
def y_mo_skip : MethodName := ⟨"TransitRowsModel", "skip", "(IIZ)Z"⟩
abbrev b_mo_skip : ByteArray := prog_10_method_12_code
theorem k_mo_skip : Cond.code y_mo_skip b_mo_skip 5 (some .boolean) ∈ gt_ := gt_i 581 (by decide +kernel) (by decide +kernel)
def y_mo_isRoute : MethodName := ⟨"TransitRowsModel", "isRoute", "(I)Z"⟩
abbrev b_mo_isRoute : ByteArray := prog_10_method_4_code
theorem k_mo_isRoute : Cond.code y_mo_isRoute b_mo_isRoute 2 (some .boolean) ∈ gt_ := gt_i 585 (by decide +kernel) (by decide +kernel)
def y_mo_isDay : MethodName := ⟨"TransitRowsModel", "isDay", "(I)Z"⟩
abbrev b_mo_isDay : ByteArray := prog_10_method_7_code
theorem k_mo_isDay : Cond.code y_mo_isDay b_mo_isDay 1 (some .boolean) ∈ gt_ := gt_i 588 (by decide +kernel) (by decide +kernel)
def y_mo_skipped : MethodName := ⟨"TransitRowsModel", "skipped", "(II)I"⟩
abbrev b_mo_skipped : ByteArray := prog_10_method_11_code
theorem k_mo_skipped : Cond.code y_mo_skipped b_mo_skipped 4 (some .int) ∈ gt_ := gt_i 593 (by decide +kernel) (by decide +kernel)
def y_mo_copy : MethodName := ⟨"TransitRowsModel", "copy", "(I)I"⟩
abbrev b_mo_copy : ByteArray := prog_10_method_14_code
theorem k_mo_copy : Cond.code y_mo_copy b_mo_copy 2 (some .int) ∈ gt_ := gt_i 597 (by decide +kernel) (by decide +kernel)
def y_mo_priority : MethodName := ⟨"TransitRowsModel", "priority", "(IZ)Z"⟩
abbrev b_mo_priority : ByteArray := prog_10_method_15_code
theorem k_mo_priority : Cond.code y_mo_priority b_mo_priority 4 (some .boolean) ∈ gt_ := gt_i 601 (by decide +kernel) (by decide +kernel)
def y_mo_isCopy : MethodName := ⟨"TransitRowsModel", "isCopy", "(I)Z"⟩
abbrev b_mo_isCopy : ByteArray := prog_10_method_5_code
theorem k_mo_isCopy : Cond.code y_mo_isCopy b_mo_isCopy 2 (some .boolean) ∈ gt_ := gt_i 605 (by decide +kernel) (by decide +kernel)
def y_mo_floats : MethodName := ⟨"TransitRowsModel", "floats", "(IZ)Z"⟩
abbrev b_mo_floats : ByteArray := prog_10_method_16_code
theorem k_mo_floats : Cond.code y_mo_floats b_mo_floats 4 (some .boolean) ∈ gt_ := gt_i 609 (by decide +kernel) (by decide +kernel)
def y_mo_send : MethodName := ⟨"TransitRowsModel", "send", "(III)I"⟩
abbrev b_mo_send : ByteArray := prog_10_method_17_code
theorem k_mo_send : Cond.code y_mo_send b_mo_send 8 (some .int) ∈ gt_ := gt_i 613 (by decide +kernel) (by decide +kernel)
def y_mo_runs : MethodName := ⟨"TransitRowsModel", "runs", "(II)Z"⟩
abbrev b_mo_runs : ByteArray := prog_10_method_13_code
theorem k_mo_runs : Cond.code y_mo_runs b_mo_runs 3 (some .boolean) ∈ gt_ := gt_i 617 (by decide +kernel) (by decide +kernel)
def y_mo_back : MethodName := ⟨"TransitRowsModel", "back", "(I)I"⟩
abbrev b_mo_back : ByteArray := prog_10_method_18_code
theorem k_mo_back : Cond.code y_mo_back b_mo_back 3 (some .int) ∈ gt_ := gt_i 621 (by decide +kernel) (by decide +kernel)
def y_mo_isSlip : MethodName := ⟨"TransitRowsModel", "isSlip", "(I)Z"⟩
abbrev b_mo_isSlip : ByteArray := prog_10_method_6_code
theorem k_mo_isSlip : Cond.code y_mo_isSlip b_mo_isSlip 2 (some .boolean) ∈ gt_ := gt_i 625 (by decide +kernel) (by decide +kernel)
def y_mo_bin : MethodName := ⟨"TransitRowsModel", "bin", "(III)I"⟩
abbrev b_mo_bin : ByteArray := prog_10_method_20_code
theorem k_mo_bin : Cond.code y_mo_bin b_mo_bin 7 (some .int) ∈ gt_ := gt_i 629 (by decide +kernel) (by decide +kernel)
def y_mo_isIn : MethodName := ⟨"TransitRowsModel", "isIn", "(III)Z"⟩
abbrev b_mo_isIn : ByteArray := prog_10_method_21_code
theorem k_mo_isIn : Cond.code y_mo_isIn b_mo_isIn 5 (some .boolean) ∈ gt_ := gt_i 633 (by decide +kernel) (by decide +kernel)
def y_mo_isBefore : MethodName := ⟨"TransitRowsModel", "isBefore", "(II)Z"⟩
abbrev b_mo_isBefore : ByteArray := prog_10_method_19_code
theorem k_mo_isBefore : Cond.code y_mo_isBefore b_mo_isBefore 7 (some .boolean) ∈ gt_ := gt_i 637 (by decide +kernel) (by decide +kernel)
def y_mo_load : MethodName := ⟨"TransitRowsModel", "load", "(II)I"⟩
abbrev b_mo_load : ByteArray := prog_10_method_23_code
theorem k_mo_load : Cond.code y_mo_load b_mo_load 8 (some .int) ∈ gt_ := gt_i 641 (by decide +kernel) (by decide +kernel)
def y_mo_put : MethodName := ⟨"TransitRowsModel", "put", "(II)V"⟩
abbrev b_mo_put : ByteArray := prog_10_method_24_code
theorem k_mo_put : Cond.code y_mo_put b_mo_put 3 none ∈ gt_ := gt_i 645 (by decide +kernel) (by decide +kernel)
def y_mo_tell : MethodName := ⟨"TransitRowsModel", "tell", "(II)V"⟩
abbrev b_mo_tell : ByteArray := prog_10_method_22_code
theorem k_mo_tell : Cond.code y_mo_tell b_mo_tell 3 none ∈ gt_ := gt_i 649 (by decide +kernel) (by decide +kernel)
def y_mo_loaded : MethodName := ⟨"TransitRowsModel", "loaded", "(II)I"⟩
abbrev b_mo_loaded : ByteArray := prog_10_method_25_code
theorem k_mo_loaded : Cond.code y_mo_loaded b_mo_loaded 4 (some .int) ∈ gt_ := gt_i 653 (by decide +kernel) (by decide +kernel)
def y_mo_missing : MethodName := ⟨"TransitRowsModel", "missing", "(II)I"⟩
abbrev b_mo_missing : ByteArray := prog_10_method_26_code
theorem k_mo_missing : Cond.code y_mo_missing b_mo_missing 6 (some .int) ∈ gt_ := gt_i 657 (by decide +kernel) (by decide +kernel)
def y_mo_arrive : MethodName := ⟨"TransitRowsModel", "arrive", "(III)I"⟩
abbrev b_mo_arrive : ByteArray := prog_10_method_27_code
theorem k_mo_arrive : Cond.code y_mo_arrive b_mo_arrive 6 (some .int) ∈ gt_ := gt_i 661 (by decide +kernel) (by decide +kernel)
def y_mo_lost : MethodName := ⟨"TransitRowsModel", "lost", "(I)I"⟩
abbrev b_mo_lost : ByteArray := prog_10_method_28_code
theorem k_mo_lost : Cond.code y_mo_lost b_mo_lost 4 (some .int) ∈ gt_ := gt_i 665 (by decide +kernel) (by decide +kernel)
def y_mo_slip : MethodName := ⟨"TransitRowsModel", "slip", "(II)I"⟩
abbrev b_mo_slip : ByteArray := prog_10_method_29_code
theorem k_mo_slip : Cond.code y_mo_slip b_mo_slip 3 (some .int) ∈ gt_ := gt_i 669 (by decide +kernel) (by decide +kernel)
def y_mo_where : MethodName := ⟨"TransitRowsModel", "where", "(II)I"⟩
abbrev b_mo_where : ByteArray := prog_10_method_30_code
theorem k_mo_where : Cond.code y_mo_where b_mo_where 3 (some .int) ∈ gt_ := gt_i 673 (by decide +kernel) (by decide +kernel)
def y_mo_statistics : MethodName := ⟨"TransitRowsModel", "statistics", "(III)I"⟩
abbrev b_mo_statistics : ByteArray := prog_10_method_31_code
theorem k_mo_statistics : Cond.code y_mo_statistics b_mo_statistics 10 (some .int) ∈ gt_ := gt_i 677 (by decide +kernel) (by decide +kernel)
def y_mo_told : MethodName := ⟨"TransitRowsModel", "told", "(II)I"⟩
abbrev b_mo_told : ByteArray := prog_10_method_32_code
theorem k_mo_told : Cond.code y_mo_told b_mo_told 3 (some .int) ∈ gt_ := gt_i 681 (by decide +kernel) (by decide +kernel)
def y_la_law : MethodName := ⟨"TransitRowsLaw", "law", "([I)Z"⟩
abbrev b_la_law : ByteArray := code
def y_la_statistics : MethodName := ⟨"TransitRowsLaw", "statistics", "(LTransitRows;III[J)I"⟩
abbrev b_la_statistics : ByteArray := method_3_code
theorem f_pl_9 : Cond.fieldLink "TransitRows$Places" 9 "TransitRows$Places" "isOpen" "[Z" ∈ gt_ := gt_i 29 (by decide +kernel) (by decide +kernel)
theorem f_tr_67 : Cond.fieldLink "TransitRows" 67 "TransitRows$Places" "isOpen" "[Z" ∈ gt_ := gt_i 30 (by decide +kernel) (by decide +kernel)
theorem f_pl_15 : Cond.fieldLink "TransitRows$Places" 15 "TransitRows$Places" "count" "I" ∈ gt_ := gt_i 31 (by decide +kernel) (by decide +kernel)
theorem f_lo_9 : Cond.fieldLink "TransitRows$LeftOut" 9 "TransitRows$LeftOut" "route" "[I" ∈ gt_ := gt_i 50 (by decide +kernel) (by decide +kernel)
theorem f_lo_15 : Cond.fieldLink "TransitRows$LeftOut" 15 "TransitRows$LeftOut" "day" "[I" ∈ gt_ := gt_i 51 (by decide +kernel) (by decide +kernel)
theorem f_lo_18 : Cond.fieldLink "TransitRows$LeftOut" 18 "TransitRows$LeftOut" "count" "I" ∈ gt_ := gt_i 52 (by decide +kernel) (by decide +kernel)
theorem f_ro_9 : Cond.fieldLink "TransitRows$Routes" 9 "TransitRows$Routes" "from" "[I" ∈ gt_ := gt_i 61 (by decide +kernel) (by decide +kernel)
theorem f_ro_15 : Cond.fieldLink "TransitRows$Routes" 15 "TransitRows$Routes" "to" "[I" ∈ gt_ := gt_i 62 (by decide +kernel) (by decide +kernel)
theorem f_tr_144 : Cond.fieldLink "TransitRows" 144 "TransitRows$Routes" "to" "[I" ∈ gt_ := gt_i 63 (by decide +kernel) (by decide +kernel)
theorem f_ro_18 : Cond.fieldLink "TransitRows$Routes" 18 "TransitRows$Routes" "mask" "[I" ∈ gt_ := gt_i 64 (by decide +kernel) (by decide +kernel)
theorem f_ro_21 : Cond.fieldLink "TransitRows$Routes" 21 "TransitRows$Routes" "duration" "[I" ∈ gt_ := gt_i 65 (by decide +kernel) (by decide +kernel)
theorem f_tr_212 : Cond.fieldLink "TransitRows" 212 "TransitRows$Routes" "duration" "[I" ∈ gt_ := gt_i 66 (by decide +kernel) (by decide +kernel)
theorem f_ro_24 : Cond.fieldLink "TransitRows$Routes" 24 "TransitRows$Routes" "room" "[I" ∈ gt_ := gt_i 67 (by decide +kernel) (by decide +kernel)
theorem f_tr_147 : Cond.fieldLink "TransitRows" 147 "TransitRows$Routes" "room" "[I" ∈ gt_ := gt_i 68 (by decide +kernel) (by decide +kernel)
theorem f_ro_27 : Cond.fieldLink "TransitRows$Routes" 27 "TransitRows$Routes" "lastLoad" "[I" ∈ gt_ := gt_i 69 (by decide +kernel) (by decide +kernel)
theorem f_tr_134 : Cond.fieldLink "TransitRows" 134 "TransitRows$Routes" "lastLoad" "[I" ∈ gt_ := gt_i 70 (by decide +kernel) (by decide +kernel)
theorem f_ro_33 : Cond.fieldLink "TransitRows$Routes" 33 "TransitRows$Routes" "leftOut" "LTransitRows$LeftOut;" ∈ gt_ := gt_i 71 (by decide +kernel) (by decide +kernel)
theorem f_tr_78 : Cond.fieldLink "TransitRows" 78 "TransitRows$Routes" "leftOut" "LTransitRows$LeftOut;" ∈ gt_ := gt_i 72 (by decide +kernel) (by decide +kernel)
theorem f_ro_37 : Cond.fieldLink "TransitRows$Routes" 37 "TransitRows$Routes" "count" "I" ∈ gt_ := gt_i 73 (by decide +kernel) (by decide +kernel)
theorem f_cp_9 : Cond.fieldLink "TransitRows$Copies" 9 "TransitRows$Copies" "home" "[I" ∈ gt_ := gt_i 97 (by decide +kernel) (by decide +kernel)
theorem f_tr_180 : Cond.fieldLink "TransitRows" 180 "TransitRows$Copies" "home" "[I" ∈ gt_ := gt_i 98 (by decide +kernel) (by decide +kernel)
theorem f_cp_15 : Cond.fieldLink "TransitRows$Copies" 15 "TransitRows$Copies" "stand" "[I" ∈ gt_ := gt_i 99 (by decide +kernel) (by decide +kernel)
theorem f_tr_103 : Cond.fieldLink "TransitRows" 103 "TransitRows$Copies" "stand" "[I" ∈ gt_ := gt_i 100 (by decide +kernel) (by decide +kernel)
theorem f_cp_18 : Cond.fieldLink "TransitRows$Copies" 18 "TransitRows$Copies" "slip" "[I" ∈ gt_ := gt_i 101 (by decide +kernel) (by decide +kernel)
theorem f_tr_100 : Cond.fieldLink "TransitRows" 100 "TransitRows$Copies" "slip" "[I" ∈ gt_ := gt_i 102 (by decide +kernel) (by decide +kernel)
theorem f_cp_21 : Cond.fieldLink "TransitRows$Copies" 21 "TransitRows$Copies" "isPriority" "[Z" ∈ gt_ := gt_i 103 (by decide +kernel) (by decide +kernel)
theorem f_tr_94 : Cond.fieldLink "TransitRows" 94 "TransitRows$Copies" "isPriority" "[Z" ∈ gt_ := gt_i 104 (by decide +kernel) (by decide +kernel)
theorem f_cp_25 : Cond.fieldLink "TransitRows$Copies" 25 "TransitRows$Copies" "isFloating" "[Z" ∈ gt_ := gt_i 105 (by decide +kernel) (by decide +kernel)
theorem f_tr_97 : Cond.fieldLink "TransitRows" 97 "TransitRows$Copies" "isFloating" "[Z" ∈ gt_ := gt_i 106 (by decide +kernel) (by decide +kernel)
theorem f_cp_28 : Cond.fieldLink "TransitRows$Copies" 28 "TransitRows$Copies" "count" "I" ∈ gt_ := gt_i 107 (by decide +kernel) (by decide +kernel)
theorem f_sl_9 : Cond.fieldLink "TransitRows$Slips" 9 "TransitRows$Slips" "copy" "[I" ∈ gt_ := gt_i 127 (by decide +kernel) (by decide +kernel)
theorem f_tr_124 : Cond.fieldLink "TransitRows" 124 "TransitRows$Slips" "copy" "[I" ∈ gt_ := gt_i 128 (by decide +kernel) (by decide +kernel)
theorem f_sl_15 : Cond.fieldLink "TransitRows$Slips" 15 "TransitRows$Slips" "route" "[I" ∈ gt_ := gt_i 129 (by decide +kernel) (by decide +kernel)
theorem f_tr_174 : Cond.fieldLink "TransitRows" 174 "TransitRows$Slips" "route" "[I" ∈ gt_ := gt_i 130 (by decide +kernel) (by decide +kernel)
theorem f_sl_18 : Cond.fieldLink "TransitRows$Slips" 18 "TransitRows$Slips" "state" "[I" ∈ gt_ := gt_i 131 (by decide +kernel) (by decide +kernel)
theorem f_tr_121 : Cond.fieldLink "TransitRows" 121 "TransitRows$Slips" "state" "[I" ∈ gt_ := gt_i 132 (by decide +kernel) (by decide +kernel)
theorem f_sl_21 : Cond.fieldLink "TransitRows$Slips" 21 "TransitRows$Slips" "sent" "[I" ∈ gt_ := gt_i 133 (by decide +kernel) (by decide +kernel)
theorem f_tr_186 : Cond.fieldLink "TransitRows" 186 "TransitRows$Slips" "sent" "[I" ∈ gt_ := gt_i 134 (by decide +kernel) (by decide +kernel)
theorem f_sl_24 : Cond.fieldLink "TransitRows$Slips" 24 "TransitRows$Slips" "goes" "[I" ∈ gt_ := gt_i 135 (by decide +kernel) (by decide +kernel)
theorem f_tr_171 : Cond.fieldLink "TransitRows" 171 "TransitRows$Slips" "goes" "[I" ∈ gt_ := gt_i 136 (by decide +kernel) (by decide +kernel)
theorem f_sl_27 : Cond.fieldLink "TransitRows$Slips" 27 "TransitRows$Slips" "came" "[I" ∈ gt_ := gt_i 137 (by decide +kernel) (by decide +kernel)
theorem f_tr_177 : Cond.fieldLink "TransitRows" 177 "TransitRows$Slips" "came" "[I" ∈ gt_ := gt_i 138 (by decide +kernel) (by decide +kernel)
theorem f_sl_30 : Cond.fieldLink "TransitRows$Slips" 30 "TransitRows$Slips" "count" "I" ∈ gt_ := gt_i 139 (by decide +kernel) (by decide +kernel)
theorem f_tr_106 : Cond.fieldLink "TransitRows" 106 "TransitRows$Slips" "count" "I" ∈ gt_ := gt_i 140 (by decide +kernel) (by decide +kernel)
theorem f_ld_9 : Cond.fieldLink "TransitRows$Loads" 9 "TransitRows$Loads" "end" "[I" ∈ gt_ := gt_i 162 (by decide +kernel) (by decide +kernel)
theorem f_ld_15 : Cond.fieldLink "TransitRows$Loads" 15 "TransitRows$Loads" "cargo" "[I" ∈ gt_ := gt_i 163 (by decide +kernel) (by decide +kernel)
theorem f_ld_18 : Cond.fieldLink "TransitRows$Loads" 18 "TransitRows$Loads" "count" "I" ∈ gt_ := gt_i 164 (by decide +kernel) (by decide +kernel)
theorem f_tr_137 : Cond.fieldLink "TransitRows" 137 "TransitRows$Loads" "count" "I" ∈ gt_ := gt_i 165 (by decide +kernel) (by decide +kernel)
theorem f_te_9 : Cond.fieldLink "TransitRows$Tellings" 9 "TransitRows$Tellings" "reason" "[I" ∈ gt_ := gt_i 179 (by decide +kernel) (by decide +kernel)
theorem f_tr_200 : Cond.fieldLink "TransitRows" 200 "TransitRows$Tellings" "reason" "[I" ∈ gt_ := gt_i 180 (by decide +kernel) (by decide +kernel)
theorem f_te_15 : Cond.fieldLink "TransitRows$Tellings" 15 "TransitRows$Tellings" "slip" "[I" ∈ gt_ := gt_i 181 (by decide +kernel) (by decide +kernel)
theorem f_tr_203 : Cond.fieldLink "TransitRows" 203 "TransitRows$Tellings" "slip" "[I" ∈ gt_ := gt_i 182 (by decide +kernel) (by decide +kernel)
theorem f_te_18 : Cond.fieldLink "TransitRows$Tellings" 18 "TransitRows$Tellings" "count" "I" ∈ gt_ := gt_i 183 (by decide +kernel) (by decide +kernel)
theorem f_tr_10 : Cond.fieldLink "TransitRows" 10 "TransitRows" "places" "LTransitRows$Places;" ∈ gt_ := gt_i 191 (by decide +kernel) (by decide +kernel)
theorem f_tr_19 : Cond.fieldLink "TransitRows" 19 "TransitRows" "routes" "LTransitRows$Routes;" ∈ gt_ := gt_i 192 (by decide +kernel) (by decide +kernel)
theorem f_tr_26 : Cond.fieldLink "TransitRows" 26 "TransitRows" "copies" "LTransitRows$Copies;" ∈ gt_ := gt_i 193 (by decide +kernel) (by decide +kernel)
theorem f_tr_33 : Cond.fieldLink "TransitRows" 33 "TransitRows" "slips" "LTransitRows$Slips;" ∈ gt_ := gt_i 194 (by decide +kernel) (by decide +kernel)
theorem f_tr_40 : Cond.fieldLink "TransitRows" 40 "TransitRows" "loads" "LTransitRows$Loads;" ∈ gt_ := gt_i 195 (by decide +kernel) (by decide +kernel)
theorem f_tr_47 : Cond.fieldLink "TransitRows" 47 "TransitRows" "tellings" "LTransitRows$Tellings;" ∈ gt_ := gt_i 196 (by decide +kernel) (by decide +kernel)
theorem f_tr_51 : Cond.fieldLink "TransitRows" 51 "TransitRows" "queue" "[I" ∈ gt_ := gt_i 197 (by decide +kernel) (by decide +kernel)
theorem f_tr_55 : Cond.fieldLink "TransitRows" 55 "TransitRows" "queued" "I" ∈ gt_ := gt_i 198 (by decide +kernel) (by decide +kernel)
theorem f_mo_38 : Cond.fieldLink "TransitRowsModel" 38 "TransitRowsModel" "thrown" "I" ∈ gt_ := gt_i 506 (by decide +kernel) (by decide +kernel)
theorem f_mo_42 : Cond.fieldLink "TransitRowsModel" 42 "TransitRowsModel" "places" "I" ∈ gt_ := gt_i 507 (by decide +kernel) (by decide +kernel)
theorem f_mo_7 : Cond.fieldLink "TransitRowsModel" 7 "TransitRowsModel" "shut" "[Z" ∈ gt_ := gt_i 508 (by decide +kernel) (by decide +kernel)
theorem f_mo_45 : Cond.fieldLink "TransitRowsModel" 45 "TransitRowsModel" "routes" "I" ∈ gt_ := gt_i 509 (by decide +kernel) (by decide +kernel)
theorem f_mo_13 : Cond.fieldLink "TransitRowsModel" 13 "TransitRowsModel" "route" "[I" ∈ gt_ := gt_i 510 (by decide +kernel) (by decide +kernel)
theorem f_mo_17 : Cond.fieldLink "TransitRowsModel" 17 "TransitRowsModel" "skipRoute" "[I" ∈ gt_ := gt_i 511 (by decide +kernel) (by decide +kernel)
theorem f_mo_20 : Cond.fieldLink "TransitRowsModel" 20 "TransitRowsModel" "skipDay" "[I" ∈ gt_ := gt_i 512 (by decide +kernel) (by decide +kernel)
theorem f_mo_59 : Cond.fieldLink "TransitRowsModel" 59 "TransitRowsModel" "skips" "I" ∈ gt_ := gt_i 513 (by decide +kernel) (by decide +kernel)
theorem f_mo_48 : Cond.fieldLink "TransitRowsModel" 48 "TransitRowsModel" "copies" "I" ∈ gt_ := gt_i 514 (by decide +kernel) (by decide +kernel)
theorem f_mo_23 : Cond.fieldLink "TransitRowsModel" 23 "TransitRowsModel" "copy" "[I" ∈ gt_ := gt_i 515 (by decide +kernel) (by decide +kernel)
theorem f_mo_26 : Cond.fieldLink "TransitRowsModel" 26 "TransitRowsModel" "first" "[Z" ∈ gt_ := gt_i 516 (by decide +kernel) (by decide +kernel)
theorem f_mo_29 : Cond.fieldLink "TransitRowsModel" 29 "TransitRowsModel" "floats" "[Z" ∈ gt_ := gt_i 517 (by decide +kernel) (by decide +kernel)
theorem f_mo_51 : Cond.fieldLink "TransitRowsModel" 51 "TransitRowsModel" "slips" "I" ∈ gt_ := gt_i 518 (by decide +kernel) (by decide +kernel)
theorem f_mo_32 : Cond.fieldLink "TransitRowsModel" 32 "TransitRowsModel" "slip" "[I" ∈ gt_ := gt_i 519 (by decide +kernel) (by decide +kernel)
theorem f_mo_92 : Cond.fieldLink "TransitRowsModel" 92 "TransitRowsModel" "loads" "I" ∈ gt_ := gt_i 520 (by decide +kernel) (by decide +kernel)
theorem f_mo_35 : Cond.fieldLink "TransitRowsModel" 35 "TransitRowsModel" "told" "[I" ∈ gt_ := gt_i 521 (by decide +kernel) (by decide +kernel)
theorem f_mo_89 : Cond.fieldLink "TransitRowsModel" 89 "TransitRowsModel" "tolds" "I" ∈ gt_ := gt_i 522 (by decide +kernel) (by decide +kernel)
theorem o_tr_204 : Cond.constant "TransitRows" 204 99999 ∈ gt_ := gt_i 251 (by decide +kernel) (by decide +kernel)
theorem o_ro_45 : Cond.constant "TransitRows$Routes" 45 99999 ∈ gt_ := gt_i 300 (by decide +kernel) (by decide +kernel)
theorem o_mo_54 : Cond.constant "TransitRowsModel" 54 100000 ∈ gt_ := gt_i 589 (by decide +kernel) (by decide +kernel)
theorem q_la_8 : Cond.classLink "TransitRowsLaw" 8 "TransitRows" ∈ gt_ := gt_i 15 (by decide +kernel) (by decide +kernel)
theorem q_tr_7 : Cond.classLink "TransitRows" 7 "TransitRows$Places" ∈ gt_ := gt_i 23 (by decide +kernel) (by decide +kernel)
theorem q_tr_16 : Cond.classLink "TransitRows" 16 "TransitRows$Routes" ∈ gt_ := gt_i 38 (by decide +kernel) (by decide +kernel)
theorem q_ro_30 : Cond.classLink "TransitRows$Routes" 30 "TransitRows$LeftOut" ∈ gt_ := gt_i 44 (by decide +kernel) (by decide +kernel)
theorem q_tr_23 : Cond.classLink "TransitRows" 23 "TransitRows$Copies" ∈ gt_ := gt_i 91 (by decide +kernel) (by decide +kernel)
theorem q_tr_30 : Cond.classLink "TransitRows" 30 "TransitRows$Slips" ∈ gt_ := gt_i 121 (by decide +kernel) (by decide +kernel)
theorem q_tr_37 : Cond.classLink "TransitRows" 37 "TransitRows$Loads" ∈ gt_ := gt_i 156 (by decide +kernel) (by decide +kernel)
theorem q_tr_44 : Cond.classLink "TransitRows" 44 "TransitRows$Tellings" ∈ gt_ := gt_i 173 (by decide +kernel) (by decide +kernel)
theorem q_la_13 : Cond.classLink "TransitRowsLaw" 13 "java/lang/ArithmeticException" ∈ gt_ := gt_i 423 (by decide +kernel) (by decide +kernel)
theorem q_tr_205 : Cond.classLink "TransitRows" 205 "java/lang/ArithmeticException" ∈ gt_ := gt_i 434 (by decide +kernel) (by decide +kernel)
theorem q_la_16 : Cond.classLink "TransitRowsLaw" 16 "TransitRowsModel" ∈ gt_ := gt_i 500 (by decide +kernel) (by decide +kernel)
theorem z_tr : Cond.instantiable "TransitRows" 8 ∈ gt_ := gt_i 16 (by decide +kernel) (by decide +kernel)
theorem z_pl : Cond.instantiable "TransitRows$Places" 2 ∈ gt_ := gt_i 24 (by decide +kernel) (by decide +kernel)
theorem z_ro : Cond.instantiable "TransitRows$Routes" 8 ∈ gt_ := gt_i 39 (by decide +kernel) (by decide +kernel)
theorem z_lo : Cond.instantiable "TransitRows$LeftOut" 3 ∈ gt_ := gt_i 45 (by decide +kernel) (by decide +kernel)
theorem z_cp : Cond.instantiable "TransitRows$Copies" 6 ∈ gt_ := gt_i 92 (by decide +kernel) (by decide +kernel)
theorem z_sl : Cond.instantiable "TransitRows$Slips" 7 ∈ gt_ := gt_i 122 (by decide +kernel) (by decide +kernel)
theorem z_ld : Cond.instantiable "TransitRows$Loads" 3 ∈ gt_ := gt_i 157 (by decide +kernel) (by decide +kernel)
theorem z_te : Cond.instantiable "TransitRows$Tellings" 3 ∈ gt_ := gt_i 174 (by decide +kernel) (by decide +kernel)
theorem z_mo : Cond.instantiable "TransitRowsModel" 17 ∈ gt_ := gt_i 501 (by decide +kernel) (by decide +kernel)
theorem s_la : Cond.initialized "TransitRowsLaw" ∈ gt_ := gt_i 0 (by decide +kernel) (by decide +kernel)
theorem s_ro : Cond.initialized "TransitRows$Routes" ∈ gt_ := gt_i 3 (by decide +kernel) (by decide +kernel)
theorem s_ld : Cond.initialized "TransitRows$Loads" ∈ gt_ := gt_i 7 (by decide +kernel) (by decide +kernel)
theorem s_mo : Cond.initialized "TransitRowsModel" ∈ gt_ := gt_i 9 (by decide +kernel) (by decide +kernel)
theorem s_tr : Cond.initialized "TransitRows" ∈ gt_ := gt_i 1 (by decide +kernel) (by decide +kernel)
theorem s_pl : Cond.initialized "TransitRows$Places" ∈ gt_ := gt_i 2 (by decide +kernel) (by decide +kernel)
theorem s_math : Cond.initialized "java/lang/Math" ∈ gt_ := gt_i 10 (by decide +kernel) (by decide +kernel)
theorem s_sl : Cond.initialized "TransitRows$Slips" ∈ gt_ := gt_i 6 (by decide +kernel) (by decide +kernel)
theorem s_te : Cond.initialized "TransitRows$Tellings" ∈ gt_ := gt_i 8 (by decide +kernel) (by decide +kernel)
theorem s_cp : Cond.initialized "TransitRows$Copies" ∈ gt_ := gt_i 5 (by decide +kernel) (by decide +kernel)
theorem s_lo : Cond.initialized "TransitRows$LeftOut" ∈ gt_ := gt_i 4 (by decide +kernel) (by decide +kernel)
theorem m_tr_init : Cond.instanceMethod y_tr_init ∈ gt_ := gt_i 18 (by decide +kernel) (by decide +kernel)
theorem m_pl_init : Cond.instanceMethod y_pl_init ∈ gt_ := gt_i 26 (by decide +kernel) (by decide +kernel)
theorem m_ro_init : Cond.instanceMethod y_ro_init ∈ gt_ := gt_i 41 (by decide +kernel) (by decide +kernel)
theorem m_lo_init : Cond.instanceMethod y_lo_init ∈ gt_ := gt_i 47 (by decide +kernel) (by decide +kernel)
theorem m_cp_init : Cond.instanceMethod y_cp_init ∈ gt_ := gt_i 94 (by decide +kernel) (by decide +kernel)
theorem m_sl_init : Cond.instanceMethod y_sl_init ∈ gt_ := gt_i 124 (by decide +kernel) (by decide +kernel)
theorem m_ld_init : Cond.instanceMethod y_ld_init ∈ gt_ := gt_i 159 (by decide +kernel) (by decide +kernel)
theorem m_te_init : Cond.instanceMethod y_te_init ∈ gt_ := gt_i 176 (by decide +kernel) (by decide +kernel)
theorem m_tr_place : Cond.instanceMethod y_tr_place ∈ gt_ := gt_i 217 (by decide +kernel) (by decide +kernel)
theorem e_tr_place : Cond.selects "TransitRows" y_tr_place y_tr_place ∈ gt_ := gt_i 218 (by decide +kernel) (by decide +kernel)
theorem m_pl_add : Cond.instanceMethod y_pl_add ∈ gt_ := gt_i 221 (by decide +kernel) (by decide +kernel)
theorem e_pl_add : Cond.selects "TransitRows$Places" y_pl_add y_pl_add ∈ gt_ := gt_i 222 (by decide +kernel) (by decide +kernel)
theorem m_tr_open : Cond.instanceMethod y_tr_open ∈ gt_ := gt_i 225 (by decide +kernel) (by decide +kernel)
theorem e_tr_open : Cond.selects "TransitRows" y_tr_open y_tr_open ∈ gt_ := gt_i 226 (by decide +kernel) (by decide +kernel)
theorem m_pl_has : Cond.instanceMethod y_pl_has ∈ gt_ := gt_i 229 (by decide +kernel) (by decide +kernel)
theorem e_pl_has : Cond.selects "TransitRows$Places" y_pl_has y_pl_has ∈ gt_ := gt_i 230 (by decide +kernel) (by decide +kernel)
theorem m_tr_route : Cond.instanceMethod y_tr_route ∈ gt_ := gt_i 233 (by decide +kernel) (by decide +kernel)
theorem e_tr_route : Cond.selects "TransitRows" y_tr_route y_tr_route ∈ gt_ := gt_i 234 (by decide +kernel) (by decide +kernel)
theorem m_ro_add : Cond.instanceMethod y_ro_add ∈ gt_ := gt_i 237 (by decide +kernel) (by decide +kernel)
theorem e_ro_add : Cond.selects "TransitRows$Routes" y_ro_add y_ro_add ∈ gt_ := gt_i 238 (by decide +kernel) (by decide +kernel)
theorem m_tr_skip : Cond.instanceMethod y_tr_skip ∈ gt_ := gt_i 241 (by decide +kernel) (by decide +kernel)
theorem e_tr_skip : Cond.selects "TransitRows" y_tr_skip y_tr_skip ∈ gt_ := gt_i 242 (by decide +kernel) (by decide +kernel)
theorem m_ro_has : Cond.instanceMethod y_ro_has ∈ gt_ := gt_i 245 (by decide +kernel) (by decide +kernel)
theorem e_ro_has : Cond.selects "TransitRows$Routes" y_ro_has y_ro_has ∈ gt_ := gt_i 246 (by decide +kernel) (by decide +kernel)
theorem a_tr_isDay : Cond.static y_tr_isDay ∈ gt_ := gt_i 249 (by decide +kernel) (by decide +kernel)
theorem m_lo_add : Cond.instanceMethod y_lo_add ∈ gt_ := gt_i 253 (by decide +kernel) (by decide +kernel)
theorem e_lo_add : Cond.selects "TransitRows$LeftOut" y_lo_add y_lo_add ∈ gt_ := gt_i 254 (by decide +kernel) (by decide +kernel)
theorem m_lo_find : Cond.instanceMethod y_lo_find ∈ gt_ := gt_i 257 (by decide +kernel) (by decide +kernel)
theorem e_lo_find : Cond.selects "TransitRows$LeftOut" y_lo_find y_lo_find ∈ gt_ := gt_i 258 (by decide +kernel) (by decide +kernel)
theorem m_lo_remove : Cond.instanceMethod y_lo_remove ∈ gt_ := gt_i 261 (by decide +kernel) (by decide +kernel)
theorem e_lo_remove : Cond.selects "TransitRows$LeftOut" y_lo_remove y_lo_remove ∈ gt_ := gt_i 262 (by decide +kernel) (by decide +kernel)
theorem m_tr_copy : Cond.instanceMethod y_tr_copy ∈ gt_ := gt_i 265 (by decide +kernel) (by decide +kernel)
theorem e_tr_copy : Cond.selects "TransitRows" y_tr_copy y_tr_copy ∈ gt_ := gt_i 266 (by decide +kernel) (by decide +kernel)
theorem m_cp_add : Cond.instanceMethod y_cp_add ∈ gt_ := gt_i 269 (by decide +kernel) (by decide +kernel)
theorem e_cp_add : Cond.selects "TransitRows$Copies" y_cp_add y_cp_add ∈ gt_ := gt_i 270 (by decide +kernel) (by decide +kernel)
theorem m_tr_priority : Cond.instanceMethod y_tr_priority ∈ gt_ := gt_i 273 (by decide +kernel) (by decide +kernel)
theorem e_tr_priority : Cond.selects "TransitRows" y_tr_priority y_tr_priority ∈ gt_ := gt_i 274 (by decide +kernel) (by decide +kernel)
theorem m_cp_has : Cond.instanceMethod y_cp_has ∈ gt_ := gt_i 277 (by decide +kernel) (by decide +kernel)
theorem e_cp_has : Cond.selects "TransitRows$Copies" y_cp_has y_cp_has ∈ gt_ := gt_i 278 (by decide +kernel) (by decide +kernel)
theorem m_tr_floats : Cond.instanceMethod y_tr_floats ∈ gt_ := gt_i 281 (by decide +kernel) (by decide +kernel)
theorem e_tr_floats : Cond.selects "TransitRows" y_tr_floats y_tr_floats ∈ gt_ := gt_i 282 (by decide +kernel) (by decide +kernel)
theorem m_tr_send : Cond.instanceMethod y_tr_send ∈ gt_ := gt_i 285 (by decide +kernel) (by decide +kernel)
theorem e_tr_send : Cond.selects "TransitRows" y_tr_send y_tr_send ∈ gt_ := gt_i 286 (by decide +kernel) (by decide +kernel)
theorem m_ro_findQuickest : Cond.instanceMethod y_ro_findQuickest ∈ gt_ := gt_i 289 (by decide +kernel) (by decide +kernel)
theorem e_ro_findQuickest : Cond.selects "TransitRows$Routes" y_ro_findQuickest y_ro_findQuickest ∈ gt_ := gt_i 290 (by decide +kernel) (by decide +kernel)
theorem m_ro_joins : Cond.instanceMethod y_ro_joins ∈ gt_ := gt_i 293 (by decide +kernel) (by decide +kernel)
theorem e_ro_joins : Cond.selects "TransitRows$Routes" y_ro_joins y_ro_joins ∈ gt_ := gt_i 294 (by decide +kernel) (by decide +kernel)
theorem m_ro_firstRun : Cond.instanceMethod y_ro_firstRun ∈ gt_ := gt_i 297 (by decide +kernel) (by decide +kernel)
theorem e_ro_firstRun : Cond.selects "TransitRows$Routes" y_ro_firstRun y_ro_firstRun ∈ gt_ := gt_i 298 (by decide +kernel) (by decide +kernel)
theorem m_ro_runsOn : Cond.instanceMethod y_ro_runsOn ∈ gt_ := gt_i 302 (by decide +kernel) (by decide +kernel)
theorem e_ro_runsOn : Cond.selects "TransitRows$Routes" y_ro_runsOn y_ro_runsOn ∈ gt_ := gt_i 303 (by decide +kernel) (by decide +kernel)
theorem m_sl_add : Cond.instanceMethod y_sl_add ∈ gt_ := gt_i 308 (by decide +kernel) (by decide +kernel)
theorem e_sl_add : Cond.selects "TransitRows$Slips" y_sl_add y_sl_add ∈ gt_ := gt_i 309 (by decide +kernel) (by decide +kernel)
theorem m_tr_back : Cond.instanceMethod y_tr_back ∈ gt_ := gt_i 312 (by decide +kernel) (by decide +kernel)
theorem e_tr_back : Cond.selects "TransitRows" y_tr_back y_tr_back ∈ gt_ := gt_i 313 (by decide +kernel) (by decide +kernel)
theorem m_sl_has : Cond.instanceMethod y_sl_has ∈ gt_ := gt_i 316 (by decide +kernel) (by decide +kernel)
theorem e_sl_has : Cond.selects "TransitRows$Slips" y_sl_has y_sl_has ∈ gt_ := gt_i 317 (by decide +kernel) (by decide +kernel)
theorem m_tr_bin : Cond.instanceMethod y_tr_bin ∈ gt_ := gt_i 320 (by decide +kernel) (by decide +kernel)
theorem e_tr_bin : Cond.selects "TransitRows" y_tr_bin y_tr_bin ∈ gt_ := gt_i 321 (by decide +kernel) (by decide +kernel)
theorem m_tr_queueBin : Cond.instanceMethod y_tr_queueBin ∈ gt_ := gt_i 325 (by decide +kernel) (by decide +kernel)
theorem e_tr_queueBin : Cond.selects "TransitRows" y_tr_queueBin y_tr_queueBin ∈ gt_ := by decide +kernel
theorem m_tr_enqueue : Cond.instanceMethod y_tr_enqueue ∈ gt_ := gt_i 330 (by decide +kernel) (by decide +kernel)
theorem e_tr_enqueue : Cond.selects "TransitRows" y_tr_enqueue y_tr_enqueue ∈ gt_ := by decide +kernel
theorem m_tr_isBefore : Cond.instanceMethod y_tr_isBefore ∈ gt_ := gt_i 334 (by decide +kernel) (by decide +kernel)
theorem e_tr_isBefore : Cond.selects "TransitRows" y_tr_isBefore y_tr_isBefore ∈ gt_ := by decide +kernel
theorem m_tr_load : Cond.instanceMethod y_tr_load ∈ gt_ := gt_i 337 (by decide +kernel) (by decide +kernel)
theorem e_tr_load : Cond.selects "TransitRows" y_tr_load y_tr_load ∈ gt_ := gt_i 338 (by decide +kernel) (by decide +kernel)
theorem m_ld_begin : Cond.instanceMethod y_ld_begin ∈ gt_ := gt_i 342 (by decide +kernel) (by decide +kernel)
theorem e_ld_begin : Cond.selects "TransitRows$Loads" y_ld_begin y_ld_begin ∈ gt_ := gt_i 343 (by decide +kernel) (by decide +kernel)
theorem m_tr_queueDue : Cond.instanceMethod y_tr_queueDue ∈ gt_ := gt_i 347 (by decide +kernel) (by decide +kernel)
theorem e_tr_queueDue : Cond.selects "TransitRows" y_tr_queueDue y_tr_queueDue ∈ gt_ := by decide +kernel
theorem m_tr_takeFromQueue : Cond.instanceMethod y_tr_takeFromQueue ∈ gt_ := gt_i 354 (by decide +kernel) (by decide +kernel)
theorem e_tr_takeFromQueue : Cond.selects "TransitRows" y_tr_takeFromQueue y_tr_takeFromQueue ∈ gt_ := by decide +kernel
theorem m_ld_put : Cond.instanceMethod y_ld_put ∈ gt_ := gt_i 357 (by decide +kernel) (by decide +kernel)
theorem e_ld_put : Cond.selects "TransitRows$Loads" y_ld_put y_ld_put ∈ gt_ := gt_i 358 (by decide +kernel) (by decide +kernel)
theorem m_tr_tellQueue : Cond.instanceMethod y_tr_tellQueue ∈ gt_ := gt_i 362 (by decide +kernel) (by decide +kernel)
theorem e_tr_tellQueue : Cond.selects "TransitRows" y_tr_tellQueue y_tr_tellQueue ∈ gt_ := by decide +kernel
theorem m_te_add : Cond.instanceMethod y_te_add ∈ gt_ := gt_i 365 (by decide +kernel) (by decide +kernel)
theorem e_te_add : Cond.selects "TransitRows$Tellings" y_te_add y_te_add ∈ gt_ := gt_i 366 (by decide +kernel) (by decide +kernel)
theorem m_tr_loaded : Cond.instanceMethod y_tr_loaded ∈ gt_ := gt_i 369 (by decide +kernel) (by decide +kernel)
theorem e_tr_loaded : Cond.selects "TransitRows" y_tr_loaded y_tr_loaded ∈ gt_ := gt_i 370 (by decide +kernel) (by decide +kernel)
theorem m_ld_has : Cond.instanceMethod y_ld_has ∈ gt_ := gt_i 373 (by decide +kernel) (by decide +kernel)
theorem e_ld_has : Cond.selects "TransitRows$Loads" y_ld_has y_ld_has ∈ gt_ := gt_i 374 (by decide +kernel) (by decide +kernel)
theorem m_ld_size : Cond.instanceMethod y_ld_size ∈ gt_ := gt_i 377 (by decide +kernel) (by decide +kernel)
theorem e_ld_size : Cond.selects "TransitRows$Loads" y_ld_size y_ld_size ∈ gt_ := gt_i 378 (by decide +kernel) (by decide +kernel)
theorem m_ld_slipAt : Cond.instanceMethod y_ld_slipAt ∈ gt_ := gt_i 381 (by decide +kernel) (by decide +kernel)
theorem e_ld_slipAt : Cond.selects "TransitRows$Loads" y_ld_slipAt y_ld_slipAt ∈ gt_ := gt_i 382 (by decide +kernel) (by decide +kernel)
theorem m_tr_missing : Cond.instanceMethod y_tr_missing ∈ gt_ := gt_i 385 (by decide +kernel) (by decide +kernel)
theorem e_tr_missing : Cond.selects "TransitRows" y_tr_missing y_tr_missing ∈ gt_ := gt_i 386 (by decide +kernel) (by decide +kernel)
theorem m_sl_isUnderWay : Cond.instanceMethod y_sl_isUnderWay ∈ gt_ := gt_i 389 (by decide +kernel) (by decide +kernel)
theorem e_sl_isUnderWay : Cond.selects "TransitRows$Slips" y_sl_isUnderWay y_sl_isUnderWay ∈ gt_ := gt_i 390 (by decide +kernel) (by decide +kernel)
theorem m_tr_arrive : Cond.instanceMethod y_tr_arrive ∈ gt_ := gt_i 393 (by decide +kernel) (by decide +kernel)
theorem e_tr_arrive : Cond.selects "TransitRows" y_tr_arrive y_tr_arrive ∈ gt_ := gt_i 394 (by decide +kernel) (by decide +kernel)
theorem m_tr_lost : Cond.instanceMethod y_tr_lost ∈ gt_ := gt_i 397 (by decide +kernel) (by decide +kernel)
theorem e_tr_lost : Cond.selects "TransitRows" y_tr_lost y_tr_lost ∈ gt_ := gt_i 398 (by decide +kernel) (by decide +kernel)
theorem m_tr_dueDay : Cond.instanceMethod y_tr_dueDay ∈ gt_ := gt_i 402 (by decide +kernel) (by decide +kernel)
theorem e_tr_dueDay : Cond.selects "TransitRows" y_tr_dueDay y_tr_dueDay ∈ gt_ := by decide +kernel
theorem m_tr_slip : Cond.instanceMethod y_tr_slip ∈ gt_ := gt_i 405 (by decide +kernel) (by decide +kernel)
theorem e_tr_slip : Cond.selects "TransitRows" y_tr_slip y_tr_slip ∈ gt_ := gt_i 406 (by decide +kernel) (by decide +kernel)
theorem m_tr_where : Cond.instanceMethod y_tr_where ∈ gt_ := gt_i 409 (by decide +kernel) (by decide +kernel)
theorem e_tr_where : Cond.selects "TransitRows" y_tr_where y_tr_where ∈ gt_ := gt_i 410 (by decide +kernel) (by decide +kernel)
theorem m_tr_told : Cond.instanceMethod y_tr_told ∈ gt_ := gt_i 413 (by decide +kernel) (by decide +kernel)
theorem e_tr_told : Cond.selects "TransitRows" y_tr_told y_tr_told ∈ gt_ := gt_i 414 (by decide +kernel) (by decide +kernel)
theorem m_te_has : Cond.instanceMethod y_te_has ∈ gt_ := gt_i 417 (by decide +kernel) (by decide +kernel)
theorem e_te_has : Cond.selects "TransitRows$Tellings" y_te_has y_te_has ∈ gt_ := gt_i 418 (by decide +kernel) (by decide +kernel)
theorem m_tr_statistics : Cond.instanceMethod y_tr_statistics ∈ gt_ := gt_i 425 (by decide +kernel) (by decide +kernel)
theorem e_tr_statistics : Cond.selects "TransitRows" y_tr_statistics y_tr_statistics ∈ gt_ := gt_i 426 (by decide +kernel) (by decide +kernel)
theorem a_tr_average : Cond.static y_tr_average ∈ gt_ := gt_i 432 (by decide +kernel) (by decide +kernel)
theorem m_mo_init : Cond.instanceMethod y_mo_init ∈ gt_ := gt_i 503 (by decide +kernel) (by decide +kernel)
theorem m_mo_thrown : Cond.instanceMethod y_mo_thrown ∈ gt_ := gt_i 559 (by decide +kernel) (by decide +kernel)
theorem e_mo_thrown : Cond.selects "TransitRowsModel" y_mo_thrown y_mo_thrown ∈ gt_ := gt_i 560 (by decide +kernel) (by decide +kernel)
theorem m_mo_place : Cond.instanceMethod y_mo_place ∈ gt_ := gt_i 563 (by decide +kernel) (by decide +kernel)
theorem e_mo_place : Cond.selects "TransitRowsModel" y_mo_place y_mo_place ∈ gt_ := gt_i 564 (by decide +kernel) (by decide +kernel)
theorem m_mo_open : Cond.instanceMethod y_mo_open ∈ gt_ := gt_i 567 (by decide +kernel) (by decide +kernel)
theorem e_mo_open : Cond.selects "TransitRowsModel" y_mo_open y_mo_open ∈ gt_ := gt_i 568 (by decide +kernel) (by decide +kernel)
theorem m_mo_isPlace : Cond.instanceMethod y_mo_isPlace ∈ gt_ := gt_i 572 (by decide +kernel) (by decide +kernel)
theorem e_mo_isPlace : Cond.selects "TransitRowsModel" y_mo_isPlace y_mo_isPlace ∈ gt_ := by decide +kernel
theorem m_mo_route : Cond.instanceMethod y_mo_route ∈ gt_ := gt_i 575 (by decide +kernel) (by decide +kernel)
theorem e_mo_route : Cond.selects "TransitRowsModel" y_mo_route y_mo_route ∈ gt_ := gt_i 576 (by decide +kernel) (by decide +kernel)
theorem m_mo_skip : Cond.instanceMethod y_mo_skip ∈ gt_ := gt_i 579 (by decide +kernel) (by decide +kernel)
theorem e_mo_skip : Cond.selects "TransitRowsModel" y_mo_skip y_mo_skip ∈ gt_ := gt_i 580 (by decide +kernel) (by decide +kernel)
theorem m_mo_isRoute : Cond.instanceMethod y_mo_isRoute ∈ gt_ := gt_i 584 (by decide +kernel) (by decide +kernel)
theorem e_mo_isRoute : Cond.selects "TransitRowsModel" y_mo_isRoute y_mo_isRoute ∈ gt_ := by decide +kernel
theorem a_mo_isDay : Cond.static y_mo_isDay ∈ gt_ := gt_i 587 (by decide +kernel) (by decide +kernel)
theorem m_mo_skipped : Cond.instanceMethod y_mo_skipped ∈ gt_ := gt_i 592 (by decide +kernel) (by decide +kernel)
theorem e_mo_skipped : Cond.selects "TransitRowsModel" y_mo_skipped y_mo_skipped ∈ gt_ := by decide +kernel
theorem m_mo_copy : Cond.instanceMethod y_mo_copy ∈ gt_ := gt_i 595 (by decide +kernel) (by decide +kernel)
theorem e_mo_copy : Cond.selects "TransitRowsModel" y_mo_copy y_mo_copy ∈ gt_ := gt_i 596 (by decide +kernel) (by decide +kernel)
theorem m_mo_priority : Cond.instanceMethod y_mo_priority ∈ gt_ := gt_i 599 (by decide +kernel) (by decide +kernel)
theorem e_mo_priority : Cond.selects "TransitRowsModel" y_mo_priority y_mo_priority ∈ gt_ := gt_i 600 (by decide +kernel) (by decide +kernel)
theorem m_mo_isCopy : Cond.instanceMethod y_mo_isCopy ∈ gt_ := gt_i 604 (by decide +kernel) (by decide +kernel)
theorem e_mo_isCopy : Cond.selects "TransitRowsModel" y_mo_isCopy y_mo_isCopy ∈ gt_ := by decide +kernel
theorem m_mo_floats : Cond.instanceMethod y_mo_floats ∈ gt_ := gt_i 607 (by decide +kernel) (by decide +kernel)
theorem e_mo_floats : Cond.selects "TransitRowsModel" y_mo_floats y_mo_floats ∈ gt_ := gt_i 608 (by decide +kernel) (by decide +kernel)
theorem m_mo_send : Cond.instanceMethod y_mo_send ∈ gt_ := gt_i 611 (by decide +kernel) (by decide +kernel)
theorem e_mo_send : Cond.selects "TransitRowsModel" y_mo_send y_mo_send ∈ gt_ := gt_i 612 (by decide +kernel) (by decide +kernel)
theorem m_mo_runs : Cond.instanceMethod y_mo_runs ∈ gt_ := gt_i 616 (by decide +kernel) (by decide +kernel)
theorem e_mo_runs : Cond.selects "TransitRowsModel" y_mo_runs y_mo_runs ∈ gt_ := by decide +kernel
theorem m_mo_back : Cond.instanceMethod y_mo_back ∈ gt_ := gt_i 619 (by decide +kernel) (by decide +kernel)
theorem e_mo_back : Cond.selects "TransitRowsModel" y_mo_back y_mo_back ∈ gt_ := gt_i 620 (by decide +kernel) (by decide +kernel)
theorem m_mo_isSlip : Cond.instanceMethod y_mo_isSlip ∈ gt_ := gt_i 624 (by decide +kernel) (by decide +kernel)
theorem e_mo_isSlip : Cond.selects "TransitRowsModel" y_mo_isSlip y_mo_isSlip ∈ gt_ := by decide +kernel
theorem m_mo_bin : Cond.instanceMethod y_mo_bin ∈ gt_ := gt_i 627 (by decide +kernel) (by decide +kernel)
theorem e_mo_bin : Cond.selects "TransitRowsModel" y_mo_bin y_mo_bin ∈ gt_ := gt_i 628 (by decide +kernel) (by decide +kernel)
theorem m_mo_isIn : Cond.instanceMethod y_mo_isIn ∈ gt_ := gt_i 632 (by decide +kernel) (by decide +kernel)
theorem e_mo_isIn : Cond.selects "TransitRowsModel" y_mo_isIn y_mo_isIn ∈ gt_ := by decide +kernel
theorem m_mo_isBefore : Cond.instanceMethod y_mo_isBefore ∈ gt_ := gt_i 636 (by decide +kernel) (by decide +kernel)
theorem e_mo_isBefore : Cond.selects "TransitRowsModel" y_mo_isBefore y_mo_isBefore ∈ gt_ := by decide +kernel
theorem m_mo_load : Cond.instanceMethod y_mo_load ∈ gt_ := gt_i 639 (by decide +kernel) (by decide +kernel)
theorem e_mo_load : Cond.selects "TransitRowsModel" y_mo_load y_mo_load ∈ gt_ := gt_i 640 (by decide +kernel) (by decide +kernel)
theorem m_mo_put : Cond.instanceMethod y_mo_put ∈ gt_ := gt_i 644 (by decide +kernel) (by decide +kernel)
theorem e_mo_put : Cond.selects "TransitRowsModel" y_mo_put y_mo_put ∈ gt_ := by decide +kernel
theorem m_mo_tell : Cond.instanceMethod y_mo_tell ∈ gt_ := gt_i 648 (by decide +kernel) (by decide +kernel)
theorem e_mo_tell : Cond.selects "TransitRowsModel" y_mo_tell y_mo_tell ∈ gt_ := by decide +kernel
theorem m_mo_loaded : Cond.instanceMethod y_mo_loaded ∈ gt_ := gt_i 651 (by decide +kernel) (by decide +kernel)
theorem e_mo_loaded : Cond.selects "TransitRowsModel" y_mo_loaded y_mo_loaded ∈ gt_ := gt_i 652 (by decide +kernel) (by decide +kernel)
theorem m_mo_missing : Cond.instanceMethod y_mo_missing ∈ gt_ := gt_i 655 (by decide +kernel) (by decide +kernel)
theorem e_mo_missing : Cond.selects "TransitRowsModel" y_mo_missing y_mo_missing ∈ gt_ := gt_i 656 (by decide +kernel) (by decide +kernel)
theorem m_mo_arrive : Cond.instanceMethod y_mo_arrive ∈ gt_ := gt_i 659 (by decide +kernel) (by decide +kernel)
theorem e_mo_arrive : Cond.selects "TransitRowsModel" y_mo_arrive y_mo_arrive ∈ gt_ := gt_i 660 (by decide +kernel) (by decide +kernel)
theorem m_mo_lost : Cond.instanceMethod y_mo_lost ∈ gt_ := gt_i 663 (by decide +kernel) (by decide +kernel)
theorem e_mo_lost : Cond.selects "TransitRowsModel" y_mo_lost y_mo_lost ∈ gt_ := gt_i 664 (by decide +kernel) (by decide +kernel)
theorem m_mo_slip : Cond.instanceMethod y_mo_slip ∈ gt_ := gt_i 667 (by decide +kernel) (by decide +kernel)
theorem e_mo_slip : Cond.selects "TransitRowsModel" y_mo_slip y_mo_slip ∈ gt_ := gt_i 668 (by decide +kernel) (by decide +kernel)
theorem m_mo_where : Cond.instanceMethod y_mo_where ∈ gt_ := gt_i 671 (by decide +kernel) (by decide +kernel)
theorem e_mo_where : Cond.selects "TransitRowsModel" y_mo_where y_mo_where ∈ gt_ := gt_i 672 (by decide +kernel) (by decide +kernel)
theorem m_mo_statistics : Cond.instanceMethod y_mo_statistics ∈ gt_ := gt_i 675 (by decide +kernel) (by decide +kernel)
theorem e_mo_statistics : Cond.selects "TransitRowsModel" y_mo_statistics y_mo_statistics ∈ gt_ := gt_i 676 (by decide +kernel) (by decide +kernel)
theorem m_mo_told : Cond.instanceMethod y_mo_told ∈ gt_ := gt_i 679 (by decide +kernel) (by decide +kernel)
theorem e_mo_told : Cond.selects "TransitRowsModel" y_mo_told y_mo_told ∈ gt_ := gt_i 680 (by decide +kernel) (by decide +kernel)
theorem a_la_statistics : Cond.static y_la_statistics ∈ gt_ := gt_i 421 (by decide +kernel) (by decide +kernel)
theorem l_la_15 : Cond.methodLink "TransitRowsLaw" 15 y_tr_init ∈ gt_ := gt_i 17 (by decide +kernel) (by decide +kernel)
theorem l_tr_1 : Cond.methodLink "TransitRows" 1 Lib.objectInit ∈ gt_ := gt_i 20 (by decide +kernel) (by decide +kernel)
theorem l_pl_3 : Cond.methodLink "TransitRows$Places" 3 Lib.objectInit ∈ gt_ := gt_i 28 (by decide +kernel) (by decide +kernel)
theorem l_ro_3 : Cond.methodLink "TransitRows$Routes" 3 Lib.objectInit ∈ gt_ := gt_i 43 (by decide +kernel) (by decide +kernel)
theorem l_lo_3 : Cond.methodLink "TransitRows$LeftOut" 3 Lib.objectInit ∈ gt_ := gt_i 49 (by decide +kernel) (by decide +kernel)
theorem l_cp_3 : Cond.methodLink "TransitRows$Copies" 3 Lib.objectInit ∈ gt_ := gt_i 96 (by decide +kernel) (by decide +kernel)
theorem l_sl_3 : Cond.methodLink "TransitRows$Slips" 3 Lib.objectInit ∈ gt_ := gt_i 126 (by decide +kernel) (by decide +kernel)
theorem l_ld_3 : Cond.methodLink "TransitRows$Loads" 3 Lib.objectInit ∈ gt_ := gt_i 161 (by decide +kernel) (by decide +kernel)
theorem l_te_3 : Cond.methodLink "TransitRows$Tellings" 3 Lib.objectInit ∈ gt_ := gt_i 178 (by decide +kernel) (by decide +kernel)
theorem l_la_19 : Cond.methodLink "TransitRowsLaw" 19 y_tr_place ∈ gt_ := gt_i 216 (by decide +kernel) (by decide +kernel)
theorem g_la_19 : GoodIn gt_ (wsV "TransitRowsLaw" 19 "TransitRows" y_tr_place (Cond.code y_tr_place b_tr_place 1 (some .int) :: gt_)) := gt_V l_la_19 m_tr_place e_tr_place s_tr k_tr_place
theorem l_tr_59 : Cond.methodLink "TransitRows" 59 y_pl_add ∈ gt_ := gt_i 220 (by decide +kernel) (by decide +kernel)
theorem g_tr_59 : GoodIn gt_ (wsV "TransitRows" 59 "TransitRows$Places" y_pl_add (Cond.code y_pl_add b_pl_add 1 (some .int) :: gt_)) := gt_V l_tr_59 m_pl_add e_pl_add s_pl k_pl_add
theorem l_la_24 : Cond.methodLink "TransitRowsLaw" 24 y_tr_open ∈ gt_ := gt_i 224 (by decide +kernel) (by decide +kernel)
theorem g_la_24 : GoodIn gt_ (wsV "TransitRowsLaw" 24 "TransitRows" y_tr_open (Cond.code y_tr_open b_tr_open 4 (some .boolean) :: gt_)) := gt_V l_la_24 m_tr_open e_tr_open s_tr k_tr_open
theorem l_tr_63 : Cond.methodLink "TransitRows" 63 y_pl_has ∈ gt_ := gt_i 228 (by decide +kernel) (by decide +kernel)
theorem g_tr_63 : GoodIn gt_ (wsV "TransitRows" 63 "TransitRows$Places" y_pl_has (Cond.code y_pl_has b_pl_has 2 (some .boolean) :: gt_)) := gt_V l_tr_63 m_pl_has e_pl_has s_pl k_pl_has
theorem l_la_29 : Cond.methodLink "TransitRowsLaw" 29 y_tr_route ∈ gt_ := gt_i 232 (by decide +kernel) (by decide +kernel)
theorem g_la_29 : GoodIn gt_ (wsV "TransitRowsLaw" 29 "TransitRows" y_tr_route (Cond.code y_tr_route b_tr_route 6 (some .int) :: gt_)) := gt_V l_la_29 m_tr_route e_tr_route s_tr k_tr_route
theorem l_tr_71 : Cond.methodLink "TransitRows" 71 y_ro_add ∈ gt_ := gt_i 236 (by decide +kernel) (by decide +kernel)
theorem g_tr_71 : GoodIn gt_ (wsV "TransitRows" 71 "TransitRows$Routes" y_ro_add (Cond.code y_ro_add b_ro_add 6 (some .int) :: gt_)) := gt_V l_tr_71 m_ro_add e_ro_add s_ro k_ro_add
theorem l_la_34 : Cond.methodLink "TransitRowsLaw" 34 y_tr_skip ∈ gt_ := gt_i 240 (by decide +kernel) (by decide +kernel)
theorem g_la_34 : GoodIn gt_ (wsV "TransitRowsLaw" 34 "TransitRows" y_tr_skip (Cond.code y_tr_skip b_tr_skip 4 (some .boolean) :: gt_)) := gt_V l_la_34 m_tr_skip e_tr_skip s_tr k_tr_skip
theorem l_tr_74 : Cond.methodLink "TransitRows" 74 y_ro_has ∈ gt_ := gt_i 244 (by decide +kernel) (by decide +kernel)
theorem g_tr_74 : GoodIn gt_ (wsV "TransitRows" 74 "TransitRows$Routes" y_ro_has (Cond.code y_ro_has b_ro_has 2 (some .boolean) :: gt_)) := gt_V l_tr_74 m_ro_has e_ro_has s_ro k_ro_has
theorem l_tr_75 : Cond.methodLink "TransitRows" 75 y_tr_isDay ∈ gt_ := gt_i 248 (by decide +kernel) (by decide +kernel)
theorem g_tr_75 : GoodIn gt_ (wsS "TransitRows" 75 y_tr_isDay (Cond.code y_tr_isDay b_tr_isDay 1 (some .boolean) :: gt_)) := gt_S l_tr_75 a_tr_isDay s_tr k_tr_isDay
theorem l_tr_82 : Cond.methodLink "TransitRows" 82 y_lo_add ∈ gt_ := gt_i 252 (by decide +kernel) (by decide +kernel)
theorem g_tr_82 : GoodIn gt_ (wsV "TransitRows" 82 "TransitRows$LeftOut" y_lo_add (Cond.code y_lo_add b_lo_add 3 (some .boolean) :: gt_)) := gt_V l_tr_82 m_lo_add e_lo_add s_lo k_lo_add
theorem l_lo_22 : Cond.methodLink "TransitRows$LeftOut" 22 y_lo_find ∈ gt_ := gt_i 256 (by decide +kernel) (by decide +kernel)
theorem g_lo_22 : GoodIn gt_ (wsV "TransitRows$LeftOut" 22 "TransitRows$LeftOut" y_lo_find (Cond.code y_lo_find b_lo_find 4 (some .int) :: gt_)) := gt_V l_lo_22 m_lo_find e_lo_find s_lo k_lo_find
theorem l_tr_87 : Cond.methodLink "TransitRows" 87 y_lo_remove ∈ gt_ := gt_i 260 (by decide +kernel) (by decide +kernel)
theorem g_tr_87 : GoodIn gt_ (wsV "TransitRows" 87 "TransitRows$LeftOut" y_lo_remove (Cond.code y_lo_remove b_lo_remove 4 (some .boolean) :: gt_)) := gt_V l_tr_87 m_lo_remove e_lo_remove s_lo k_lo_remove
theorem l_la_39 : Cond.methodLink "TransitRowsLaw" 39 y_tr_copy ∈ gt_ := gt_i 264 (by decide +kernel) (by decide +kernel)
theorem g_la_39 : GoodIn gt_ (wsV "TransitRowsLaw" 39 "TransitRows" y_tr_copy (Cond.code y_tr_copy b_tr_copy 2 (some .int) :: gt_)) := gt_V l_la_39 m_tr_copy e_tr_copy s_tr k_tr_copy
theorem l_tr_90 : Cond.methodLink "TransitRows" 90 y_cp_add ∈ gt_ := gt_i 268 (by decide +kernel) (by decide +kernel)
theorem g_tr_90 : GoodIn gt_ (wsV "TransitRows" 90 "TransitRows$Copies" y_cp_add (Cond.code y_cp_add b_cp_add 2 (some .int) :: gt_)) := gt_V l_tr_90 m_cp_add e_cp_add s_cp k_cp_add
theorem l_la_44 : Cond.methodLink "TransitRowsLaw" 44 y_tr_priority ∈ gt_ := gt_i 272 (by decide +kernel) (by decide +kernel)
theorem g_la_44 : GoodIn gt_ (wsV "TransitRowsLaw" 44 "TransitRows" y_tr_priority (Cond.code y_tr_priority b_tr_priority 4 (some .boolean) :: gt_)) := gt_V l_la_44 m_tr_priority e_tr_priority s_tr k_tr_priority
theorem l_tr_93 : Cond.methodLink "TransitRows" 93 y_cp_has ∈ gt_ := gt_i 276 (by decide +kernel) (by decide +kernel)
theorem g_tr_93 : GoodIn gt_ (wsV "TransitRows" 93 "TransitRows$Copies" y_cp_has (Cond.code y_cp_has b_cp_has 2 (some .boolean) :: gt_)) := gt_V l_tr_93 m_cp_has e_cp_has s_cp k_cp_has
theorem l_la_48 : Cond.methodLink "TransitRowsLaw" 48 y_tr_floats ∈ gt_ := gt_i 280 (by decide +kernel) (by decide +kernel)
theorem g_la_48 : GoodIn gt_ (wsV "TransitRowsLaw" 48 "TransitRows" y_tr_floats (Cond.code y_tr_floats b_tr_floats 4 (some .boolean) :: gt_)) := gt_V l_la_48 m_tr_floats e_tr_floats s_tr k_tr_floats
theorem l_la_52 : Cond.methodLink "TransitRowsLaw" 52 y_tr_send ∈ gt_ := gt_i 284 (by decide +kernel) (by decide +kernel)
theorem g_la_52 : GoodIn gt_ (wsV "TransitRowsLaw" 52 "TransitRows" y_tr_send (Cond.code y_tr_send b_tr_send 7 (some .int) :: gt_)) := gt_V l_la_52 m_tr_send e_tr_send s_tr k_tr_send
theorem l_tr_109 : Cond.methodLink "TransitRows" 109 y_ro_findQuickest ∈ gt_ := gt_i 288 (by decide +kernel) (by decide +kernel)
theorem g_tr_109 : GoodIn gt_ (wsV "TransitRows" 109 "TransitRows$Routes" y_ro_findQuickest (Cond.code y_ro_findQuickest b_ro_findQuickest 8 (some .int) :: gt_)) := gt_V l_tr_109 m_ro_findQuickest e_ro_findQuickest s_ro k_ro_findQuickest
theorem l_ro_50 : Cond.methodLink "TransitRows$Routes" 50 y_ro_joins ∈ gt_ := gt_i 292 (by decide +kernel) (by decide +kernel)
theorem g_ro_50 : GoodIn gt_ (wsV "TransitRows$Routes" 50 "TransitRows$Routes" y_ro_joins (Cond.code y_ro_joins b_ro_joins 4 (some .boolean) :: gt_)) := gt_V l_ro_50 m_ro_joins e_ro_joins s_ro k_ro_joins
theorem l_ro_54 : Cond.methodLink "TransitRows$Routes" 54 y_ro_firstRun ∈ gt_ := gt_i 296 (by decide +kernel) (by decide +kernel)
theorem g_ro_54 : GoodIn gt_ (wsV "TransitRows$Routes" 54 "TransitRows$Routes" y_ro_firstRun (Cond.code y_ro_firstRun b_ro_firstRun 4 (some .int) :: gt_)) := gt_V l_ro_54 m_ro_firstRun e_ro_firstRun s_ro k_ro_firstRun
theorem l_ro_46 : Cond.methodLink "TransitRows$Routes" 46 y_ro_runsOn ∈ gt_ := gt_i 301 (by decide +kernel) (by decide +kernel)
theorem g_ro_46 : GoodIn gt_ (wsV "TransitRows$Routes" 46 "TransitRows$Routes" y_ro_runsOn (Cond.code y_ro_runsOn b_ro_runsOn 4 (some .boolean) :: gt_)) := gt_V l_ro_46 m_ro_runsOn e_ro_runsOn s_ro k_ro_runsOn
theorem l_ro_41 : Cond.methodLink "TransitRows$Routes" 41 y_lo_find ∈ gt_ := gt_i 305 (by decide +kernel) (by decide +kernel)
theorem g_ro_41 : GoodIn gt_ (wsV "TransitRows$Routes" 41 "TransitRows$LeftOut" y_lo_find (Cond.code y_lo_find b_lo_find 4 (some .int) :: gt_)) := gt_V l_ro_41 m_lo_find e_lo_find s_lo k_lo_find
theorem l_tr_113 : Cond.methodLink "TransitRows" 113 y_ro_firstRun ∈ gt_ := gt_i 306 (by decide +kernel) (by decide +kernel)
theorem g_tr_113 : GoodIn gt_ (wsV "TransitRows" 113 "TransitRows$Routes" y_ro_firstRun (Cond.code y_ro_firstRun b_ro_firstRun 4 (some .int) :: gt_)) := gt_V l_tr_113 m_ro_firstRun e_ro_firstRun s_ro k_ro_firstRun
theorem l_tr_117 : Cond.methodLink "TransitRows" 117 y_sl_add ∈ gt_ := gt_i 307 (by decide +kernel) (by decide +kernel)
theorem g_tr_117 : GoodIn gt_ (wsV "TransitRows" 117 "TransitRows$Slips" y_sl_add (Cond.code y_sl_add b_sl_add 5 (some .int) :: gt_)) := gt_V l_tr_117 m_sl_add e_sl_add s_sl k_sl_add
theorem l_la_56 : Cond.methodLink "TransitRowsLaw" 56 y_tr_back ∈ gt_ := gt_i 311 (by decide +kernel) (by decide +kernel)
theorem g_la_56 : GoodIn gt_ (wsV "TransitRowsLaw" 56 "TransitRows" y_tr_back (Cond.code y_tr_back b_tr_back 2 (some .int) :: gt_)) := gt_V l_la_56 m_tr_back e_tr_back s_tr k_tr_back
theorem l_tr_120 : Cond.methodLink "TransitRows" 120 y_sl_has ∈ gt_ := gt_i 315 (by decide +kernel) (by decide +kernel)
theorem g_tr_120 : GoodIn gt_ (wsV "TransitRows" 120 "TransitRows$Slips" y_sl_has (Cond.code y_sl_has b_sl_has 2 (some .boolean) :: gt_)) := gt_V l_tr_120 m_sl_has e_sl_has s_sl k_sl_has
theorem l_la_60 : Cond.methodLink "TransitRowsLaw" 60 y_tr_bin ∈ gt_ := gt_i 319 (by decide +kernel) (by decide +kernel)
theorem g_la_60 : GoodIn gt_ (wsV "TransitRowsLaw" 60 "TransitRows" y_tr_bin (Cond.code y_tr_bin b_tr_bin 4 (some .int) :: gt_)) := gt_V l_la_60 m_tr_bin e_tr_bin s_tr k_tr_bin
theorem l_tr_127 : Cond.methodLink "TransitRows" 127 y_tr_queueBin ∈ gt_ := gt_i 323 (by decide +kernel) (by decide +kernel)
theorem g_tr_127 : GoodIn gt_ (wsV "TransitRows" 127 "TransitRows" y_tr_queueBin (Cond.code y_tr_queueBin b_tr_queueBin 4 none :: gt_)) := gt_V l_tr_127 m_tr_queueBin e_tr_queueBin s_tr k_tr_queueBin
theorem l_tr_189 : Cond.methodLink "TransitRows" 189 y_ro_joins ∈ gt_ := gt_i 327 (by decide +kernel) (by decide +kernel)
theorem g_tr_189 : GoodIn gt_ (wsV "TransitRows" 189 "TransitRows$Routes" y_ro_joins (Cond.code y_ro_joins b_ro_joins 4 (some .boolean) :: gt_)) := gt_V l_tr_189 m_ro_joins e_ro_joins s_ro k_ro_joins
theorem l_tr_215 : Cond.methodLink "TransitRows" 215 y_tr_enqueue ∈ gt_ := gt_i 328 (by decide +kernel) (by decide +kernel)
theorem g_tr_215 : GoodIn gt_ (wsV "TransitRows" 215 "TransitRows" y_tr_enqueue (Cond.code y_tr_enqueue b_tr_enqueue 3 none :: gt_)) := gt_V l_tr_215 m_tr_enqueue e_tr_enqueue s_tr k_tr_enqueue
theorem l_tr_219 : Cond.methodLink "TransitRows" 219 y_tr_isBefore ∈ gt_ := gt_i 332 (by decide +kernel) (by decide +kernel)
theorem g_tr_219 : GoodIn gt_ (wsV "TransitRows" 219 "TransitRows" y_tr_isBefore (Cond.code y_tr_isBefore b_tr_isBefore 4 (some .boolean) :: gt_)) := gt_V l_tr_219 m_tr_isBefore e_tr_isBefore s_tr k_tr_isBefore
theorem l_la_64 : Cond.methodLink "TransitRowsLaw" 64 y_tr_load ∈ gt_ := gt_i 336 (by decide +kernel) (by decide +kernel)
theorem g_la_64 : GoodIn gt_ (wsV "TransitRowsLaw" 64 "TransitRows" y_tr_load (Cond.code y_tr_load b_tr_load 5 (some .int) :: gt_)) := gt_V l_la_64 m_tr_load e_tr_load s_tr k_tr_load
theorem l_tr_131 : Cond.methodLink "TransitRows" 131 y_ro_runsOn ∈ gt_ := gt_i 340 (by decide +kernel) (by decide +kernel)
theorem g_tr_131 : GoodIn gt_ (wsV "TransitRows" 131 "TransitRows$Routes" y_ro_runsOn (Cond.code y_ro_runsOn b_ro_runsOn 4 (some .boolean) :: gt_)) := gt_V l_tr_131 m_ro_runsOn e_ro_runsOn s_ro k_ro_runsOn
theorem l_tr_138 : Cond.methodLink "TransitRows" 138 y_ld_begin ∈ gt_ := gt_i 341 (by decide +kernel) (by decide +kernel)
theorem g_tr_138 : GoodIn gt_ (wsV "TransitRows" 138 "TransitRows$Loads" y_ld_begin (Cond.code y_ld_begin b_ld_begin 1 (some .int) :: gt_)) := gt_V l_tr_138 m_ld_begin e_ld_begin s_ld k_ld_begin
theorem l_tr_141 : Cond.methodLink "TransitRows" 141 y_tr_queueDue ∈ gt_ := gt_i 345 (by decide +kernel) (by decide +kernel)
theorem g_tr_141 : GoodIn gt_ (wsV "TransitRows" 141 "TransitRows" y_tr_queueDue (Cond.code y_tr_queueDue b_tr_queueDue 5 none :: gt_)) := gt_V l_tr_141 m_tr_queueDue e_tr_queueDue s_tr k_tr_queueDue
theorem l_tr_150 : Cond.methodLink "TransitRows" 150 Lib.Math.min.name ∈ gt_ := gt_i 349 (by decide +kernel) (by decide +kernel)
theorem l_tr_155 : Cond.methodLink "TransitRows" 155 y_tr_takeFromQueue ∈ gt_ := gt_i 352 (by decide +kernel) (by decide +kernel)
theorem g_tr_155 : GoodIn gt_ (wsV "TransitRows" 155 "TransitRows" y_tr_takeFromQueue (Cond.code y_tr_takeFromQueue b_tr_takeFromQueue 5 none :: gt_)) := gt_V l_tr_155 m_tr_takeFromQueue e_tr_takeFromQueue s_tr k_tr_takeFromQueue
theorem l_tr_222 : Cond.methodLink "TransitRows" 222 y_ld_put ∈ gt_ := gt_i 356 (by decide +kernel) (by decide +kernel)
theorem g_tr_222 : GoodIn gt_ (wsV "TransitRows" 222 "TransitRows$Loads" y_ld_put (Cond.code y_ld_put b_ld_put 2 none :: gt_)) := gt_V l_tr_222 m_ld_put e_ld_put s_ld k_ld_put
theorem l_tr_158 : Cond.methodLink "TransitRows" 158 y_tr_tellQueue ∈ gt_ := gt_i 360 (by decide +kernel) (by decide +kernel)
theorem g_tr_158 : GoodIn gt_ (wsV "TransitRows" 158 "TransitRows" y_tr_tellQueue (Cond.code y_tr_tellQueue b_tr_tellQueue 4 none :: gt_)) := gt_V l_tr_158 m_tr_tellQueue e_tr_tellQueue s_tr k_tr_tellQueue
theorem l_tr_225 : Cond.methodLink "TransitRows" 225 y_te_add ∈ gt_ := gt_i 364 (by decide +kernel) (by decide +kernel)
theorem g_tr_225 : GoodIn gt_ (wsV "TransitRows" 225 "TransitRows$Tellings" y_te_add (Cond.code y_te_add b_te_add 3 none :: gt_)) := gt_V l_tr_225 m_te_add e_te_add s_te k_te_add
theorem l_la_69 : Cond.methodLink "TransitRowsLaw" 69 y_tr_loaded ∈ gt_ := gt_i 368 (by decide +kernel) (by decide +kernel)
theorem g_la_69 : GoodIn gt_ (wsV "TransitRowsLaw" 69 "TransitRows" y_tr_loaded (Cond.code y_tr_loaded b_tr_loaded 3 (some .int) :: gt_)) := gt_V l_la_69 m_tr_loaded e_tr_loaded s_tr k_tr_loaded
theorem l_tr_161 : Cond.methodLink "TransitRows" 161 y_ld_has ∈ gt_ := gt_i 372 (by decide +kernel) (by decide +kernel)
theorem g_tr_161 : GoodIn gt_ (wsV "TransitRows" 161 "TransitRows$Loads" y_ld_has (Cond.code y_ld_has b_ld_has 2 (some .boolean) :: gt_)) := gt_V l_tr_161 m_ld_has e_ld_has s_ld k_ld_has
theorem l_tr_162 : Cond.methodLink "TransitRows" 162 y_ld_size ∈ gt_ := gt_i 376 (by decide +kernel) (by decide +kernel)
theorem g_tr_162 : GoodIn gt_ (wsV "TransitRows" 162 "TransitRows$Loads" y_ld_size (Cond.code y_ld_size b_ld_size 2 (some .int) :: gt_)) := gt_V l_tr_162 m_ld_size e_ld_size s_ld k_ld_size
theorem l_tr_165 : Cond.methodLink "TransitRows" 165 y_ld_slipAt ∈ gt_ := gt_i 380 (by decide +kernel) (by decide +kernel)
theorem g_tr_165 : GoodIn gt_ (wsV "TransitRows" 165 "TransitRows$Loads" y_ld_slipAt (Cond.code y_ld_slipAt b_ld_slipAt 3 (some .int) :: gt_)) := gt_V l_tr_165 m_ld_slipAt e_ld_slipAt s_ld k_ld_slipAt
theorem l_la_73 : Cond.methodLink "TransitRowsLaw" 73 y_tr_missing ∈ gt_ := gt_i 384 (by decide +kernel) (by decide +kernel)
theorem g_la_73 : GoodIn gt_ (wsV "TransitRowsLaw" 73 "TransitRows" y_tr_missing (Cond.code y_tr_missing b_tr_missing 6 (some .int) :: gt_)) := gt_V l_la_73 m_tr_missing e_tr_missing s_tr k_tr_missing
theorem l_tr_168 : Cond.methodLink "TransitRows" 168 y_sl_isUnderWay ∈ gt_ := gt_i 388 (by decide +kernel) (by decide +kernel)
theorem g_tr_168 : GoodIn gt_ (wsV "TransitRows" 168 "TransitRows$Slips" y_sl_isUnderWay (Cond.code y_sl_isUnderWay b_sl_isUnderWay 2 (some .boolean) :: gt_)) := gt_V l_tr_168 m_sl_isUnderWay e_sl_isUnderWay s_sl k_sl_isUnderWay
theorem l_la_77 : Cond.methodLink "TransitRowsLaw" 77 y_tr_arrive ∈ gt_ := gt_i 392 (by decide +kernel) (by decide +kernel)
theorem g_la_77 : GoodIn gt_ (wsV "TransitRowsLaw" 77 "TransitRows" y_tr_arrive (Cond.code y_tr_arrive b_tr_arrive 6 (some .int) :: gt_)) := gt_V l_la_77 m_tr_arrive e_tr_arrive s_tr k_tr_arrive
theorem l_la_81 : Cond.methodLink "TransitRowsLaw" 81 y_tr_lost ∈ gt_ := gt_i 396 (by decide +kernel) (by decide +kernel)
theorem g_la_81 : GoodIn gt_ (wsV "TransitRowsLaw" 81 "TransitRows" y_tr_lost (Cond.code y_tr_lost b_tr_lost 4 (some .int) :: gt_)) := gt_V l_la_81 m_tr_lost e_tr_lost s_tr k_tr_lost
theorem l_tr_183 : Cond.methodLink "TransitRows" 183 y_tr_dueDay ∈ gt_ := gt_i 400 (by decide +kernel) (by decide +kernel)
theorem g_tr_183 : GoodIn gt_ (wsV "TransitRows" 183 "TransitRows" y_tr_dueDay (Cond.code y_tr_dueDay b_tr_dueDay 2 (some .int) :: gt_)) := gt_V l_tr_183 m_tr_dueDay e_tr_dueDay s_tr k_tr_dueDay
theorem l_la_85 : Cond.methodLink "TransitRowsLaw" 85 y_tr_slip ∈ gt_ := gt_i 404 (by decide +kernel) (by decide +kernel)
theorem g_la_85 : GoodIn gt_ (wsV "TransitRowsLaw" 85 "TransitRows" y_tr_slip (Cond.code y_tr_slip b_tr_slip 3 (some .int) :: gt_)) := gt_V l_la_85 m_tr_slip e_tr_slip s_tr k_tr_slip
theorem l_la_89 : Cond.methodLink "TransitRowsLaw" 89 y_tr_where ∈ gt_ := gt_i 408 (by decide +kernel) (by decide +kernel)
theorem g_la_89 : GoodIn gt_ (wsV "TransitRowsLaw" 89 "TransitRows" y_tr_where (Cond.code y_tr_where b_tr_where 3 (some .int) :: gt_)) := gt_V l_la_89 m_tr_where e_tr_where s_tr k_tr_where
theorem l_la_102 : Cond.methodLink "TransitRowsLaw" 102 y_tr_told ∈ gt_ := gt_i 412 (by decide +kernel) (by decide +kernel)
theorem g_la_102 : GoodIn gt_ (wsV "TransitRowsLaw" 102 "TransitRows" y_tr_told (Cond.code y_tr_told b_tr_told 3 (some .int) :: gt_)) := gt_V l_la_102 m_tr_told e_tr_told s_tr k_tr_told
theorem l_tr_199 : Cond.methodLink "TransitRows" 199 y_te_has ∈ gt_ := gt_i 416 (by decide +kernel) (by decide +kernel)
theorem g_tr_199 : GoodIn gt_ (wsV "TransitRows" 199 "TransitRows$Tellings" y_te_has (Cond.code y_te_has b_te_has 2 (some .boolean) :: gt_)) := gt_V l_tr_199 m_te_has e_te_has s_te k_te_has
theorem l_la_93 : Cond.methodLink "TransitRowsLaw" 93 y_la_statistics ∈ gt_ := gt_i 420 (by decide +kernel) (by decide +kernel)
theorem l_la_7 : Cond.methodLink "TransitRowsLaw" 7 y_tr_statistics ∈ gt_ := gt_i 424 (by decide +kernel) (by decide +kernel)
theorem g_la_7 : GoodIn gt_ (wsV "TransitRowsLaw" 7 "TransitRows" y_tr_statistics (Cond.code y_tr_statistics b_tr_statistics 9 (some .int) :: gt_)) := gt_V l_la_7 m_tr_statistics e_tr_statistics s_tr k_tr_statistics
theorem l_tr_193 : Cond.methodLink "TransitRows" 193 Lib.Math.max.name ∈ gt_ := gt_i 428 (by decide +kernel) (by decide +kernel)
theorem l_tr_196 : Cond.methodLink "TransitRows" 196 y_tr_average ∈ gt_ := gt_i 431 (by decide +kernel) (by decide +kernel)
theorem g_tr_196 : GoodIn gt_ (wsS "TransitRows" 196 y_tr_average (Cond.code y_tr_average b_tr_average 2 (some .int) :: gt_)) := gt_S l_tr_196 a_tr_average s_tr k_tr_average
theorem l_la_18 : Cond.methodLink "TransitRowsLaw" 18 y_mo_init ∈ gt_ := gt_i 502 (by decide +kernel) (by decide +kernel)
theorem l_mo_1 : Cond.methodLink "TransitRowsModel" 1 Lib.objectInit ∈ gt_ := gt_i 505 (by decide +kernel) (by decide +kernel)
theorem l_la_99 : Cond.methodLink "TransitRowsLaw" 99 y_mo_thrown ∈ gt_ := gt_i 558 (by decide +kernel) (by decide +kernel)
theorem g_la_99 : GoodIn gt_ (wsV "TransitRowsLaw" 99 "TransitRowsModel" y_mo_thrown (Cond.code y_mo_thrown b_mo_thrown 1 (some .int) :: gt_)) := gt_V l_la_99 m_mo_thrown e_mo_thrown s_mo k_mo_thrown
theorem l_la_23 : Cond.methodLink "TransitRowsLaw" 23 y_mo_place ∈ gt_ := gt_i 562 (by decide +kernel) (by decide +kernel)
theorem g_la_23 : GoodIn gt_ (wsV "TransitRowsLaw" 23 "TransitRowsModel" y_mo_place (Cond.code y_mo_place b_mo_place 1 (some .int) :: gt_)) := gt_V l_la_23 m_mo_place e_mo_place s_mo k_mo_place
theorem l_la_28 : Cond.methodLink "TransitRowsLaw" 28 y_mo_open ∈ gt_ := gt_i 566 (by decide +kernel) (by decide +kernel)
theorem g_la_28 : GoodIn gt_ (wsV "TransitRowsLaw" 28 "TransitRowsModel" y_mo_open (Cond.code y_mo_open b_mo_open 4 (some .boolean) :: gt_)) := gt_V l_la_28 m_mo_open e_mo_open s_mo k_mo_open
theorem l_mo_55 : Cond.methodLink "TransitRowsModel" 55 y_mo_isPlace ∈ gt_ := gt_i 570 (by decide +kernel) (by decide +kernel)
theorem g_mo_55 : GoodIn gt_ (wsV "TransitRowsModel" 55 "TransitRowsModel" y_mo_isPlace (Cond.code y_mo_isPlace b_mo_isPlace 2 (some .boolean) :: gt_)) := gt_V l_mo_55 m_mo_isPlace e_mo_isPlace s_mo k_mo_isPlace
theorem l_la_33 : Cond.methodLink "TransitRowsLaw" 33 y_mo_route ∈ gt_ := gt_i 574 (by decide +kernel) (by decide +kernel)
theorem g_la_33 : GoodIn gt_ (wsV "TransitRowsLaw" 33 "TransitRowsModel" y_mo_route (Cond.code y_mo_route b_mo_route 7 (some .int) :: gt_)) := gt_V l_la_33 m_mo_route e_mo_route s_mo k_mo_route
theorem l_la_38 : Cond.methodLink "TransitRowsLaw" 38 y_mo_skip ∈ gt_ := gt_i 578 (by decide +kernel) (by decide +kernel)
theorem g_la_38 : GoodIn gt_ (wsV "TransitRowsLaw" 38 "TransitRowsModel" y_mo_skip (Cond.code y_mo_skip b_mo_skip 5 (some .boolean) :: gt_)) := gt_V l_la_38 m_mo_skip e_mo_skip s_mo k_mo_skip
theorem l_mo_62 : Cond.methodLink "TransitRowsModel" 62 y_mo_isRoute ∈ gt_ := gt_i 582 (by decide +kernel) (by decide +kernel)
theorem g_mo_62 : GoodIn gt_ (wsV "TransitRowsModel" 62 "TransitRowsModel" y_mo_isRoute (Cond.code y_mo_isRoute b_mo_isRoute 2 (some .boolean) :: gt_)) := gt_V l_mo_62 m_mo_isRoute e_mo_isRoute s_mo k_mo_isRoute
theorem l_mo_65 : Cond.methodLink "TransitRowsModel" 65 y_mo_isDay ∈ gt_ := gt_i 586 (by decide +kernel) (by decide +kernel)
theorem g_mo_65 : GoodIn gt_ (wsS "TransitRowsModel" 65 y_mo_isDay (Cond.code y_mo_isDay b_mo_isDay 1 (some .boolean) :: gt_)) := gt_S l_mo_65 a_mo_isDay s_mo k_mo_isDay
theorem l_mo_68 : Cond.methodLink "TransitRowsModel" 68 y_mo_skipped ∈ gt_ := gt_i 590 (by decide +kernel) (by decide +kernel)
theorem g_mo_68 : GoodIn gt_ (wsV "TransitRowsModel" 68 "TransitRowsModel" y_mo_skipped (Cond.code y_mo_skipped b_mo_skipped 4 (some .int) :: gt_)) := gt_V l_mo_68 m_mo_skipped e_mo_skipped s_mo k_mo_skipped
theorem l_la_43 : Cond.methodLink "TransitRowsLaw" 43 y_mo_copy ∈ gt_ := gt_i 594 (by decide +kernel) (by decide +kernel)
theorem g_la_43 : GoodIn gt_ (wsV "TransitRowsLaw" 43 "TransitRowsModel" y_mo_copy (Cond.code y_mo_copy b_mo_copy 2 (some .int) :: gt_)) := gt_V l_la_43 m_mo_copy e_mo_copy s_mo k_mo_copy
theorem l_la_47 : Cond.methodLink "TransitRowsLaw" 47 y_mo_priority ∈ gt_ := gt_i 598 (by decide +kernel) (by decide +kernel)
theorem g_la_47 : GoodIn gt_ (wsV "TransitRowsLaw" 47 "TransitRowsModel" y_mo_priority (Cond.code y_mo_priority b_mo_priority 4 (some .boolean) :: gt_)) := gt_V l_la_47 m_mo_priority e_mo_priority s_mo k_mo_priority
theorem l_mo_72 : Cond.methodLink "TransitRowsModel" 72 y_mo_isCopy ∈ gt_ := gt_i 602 (by decide +kernel) (by decide +kernel)
theorem g_mo_72 : GoodIn gt_ (wsV "TransitRowsModel" 72 "TransitRowsModel" y_mo_isCopy (Cond.code y_mo_isCopy b_mo_isCopy 2 (some .boolean) :: gt_)) := gt_V l_mo_72 m_mo_isCopy e_mo_isCopy s_mo k_mo_isCopy
theorem l_la_51 : Cond.methodLink "TransitRowsLaw" 51 y_mo_floats ∈ gt_ := gt_i 606 (by decide +kernel) (by decide +kernel)
theorem g_la_51 : GoodIn gt_ (wsV "TransitRowsLaw" 51 "TransitRowsModel" y_mo_floats (Cond.code y_mo_floats b_mo_floats 4 (some .boolean) :: gt_)) := gt_V l_la_51 m_mo_floats e_mo_floats s_mo k_mo_floats
theorem l_la_55 : Cond.methodLink "TransitRowsLaw" 55 y_mo_send ∈ gt_ := gt_i 610 (by decide +kernel) (by decide +kernel)
theorem g_la_55 : GoodIn gt_ (wsV "TransitRowsLaw" 55 "TransitRowsModel" y_mo_send (Cond.code y_mo_send b_mo_send 8 (some .int) :: gt_)) := gt_V l_la_55 m_mo_send e_mo_send s_mo k_mo_send
theorem l_mo_75 : Cond.methodLink "TransitRowsModel" 75 y_mo_runs ∈ gt_ := gt_i 614 (by decide +kernel) (by decide +kernel)
theorem g_mo_75 : GoodIn gt_ (wsV "TransitRowsModel" 75 "TransitRowsModel" y_mo_runs (Cond.code y_mo_runs b_mo_runs 3 (some .boolean) :: gt_)) := gt_V l_mo_75 m_mo_runs e_mo_runs s_mo k_mo_runs
theorem l_la_59 : Cond.methodLink "TransitRowsLaw" 59 y_mo_back ∈ gt_ := gt_i 618 (by decide +kernel) (by decide +kernel)
theorem g_la_59 : GoodIn gt_ (wsV "TransitRowsLaw" 59 "TransitRowsModel" y_mo_back (Cond.code y_mo_back b_mo_back 3 (some .int) :: gt_)) := gt_V l_la_59 m_mo_back e_mo_back s_mo k_mo_back
theorem l_mo_79 : Cond.methodLink "TransitRowsModel" 79 y_mo_isSlip ∈ gt_ := gt_i 622 (by decide +kernel) (by decide +kernel)
theorem g_mo_79 : GoodIn gt_ (wsV "TransitRowsModel" 79 "TransitRowsModel" y_mo_isSlip (Cond.code y_mo_isSlip b_mo_isSlip 2 (some .boolean) :: gt_)) := gt_V l_mo_79 m_mo_isSlip e_mo_isSlip s_mo k_mo_isSlip
theorem l_la_63 : Cond.methodLink "TransitRowsLaw" 63 y_mo_bin ∈ gt_ := gt_i 626 (by decide +kernel) (by decide +kernel)
theorem g_la_63 : GoodIn gt_ (wsV "TransitRowsLaw" 63 "TransitRowsModel" y_mo_bin (Cond.code y_mo_bin b_mo_bin 7 (some .int) :: gt_)) := gt_V l_la_63 m_mo_bin e_mo_bin s_mo k_mo_bin
theorem l_mo_82 : Cond.methodLink "TransitRowsModel" 82 y_mo_isIn ∈ gt_ := gt_i 630 (by decide +kernel) (by decide +kernel)
theorem g_mo_82 : GoodIn gt_ (wsV "TransitRowsModel" 82 "TransitRowsModel" y_mo_isIn (Cond.code y_mo_isIn b_mo_isIn 5 (some .boolean) :: gt_)) := gt_V l_mo_82 m_mo_isIn e_mo_isIn s_mo k_mo_isIn
theorem l_mo_86 : Cond.methodLink "TransitRowsModel" 86 y_mo_isBefore ∈ gt_ := gt_i 634 (by decide +kernel) (by decide +kernel)
theorem g_mo_86 : GoodIn gt_ (wsV "TransitRowsModel" 86 "TransitRowsModel" y_mo_isBefore (Cond.code y_mo_isBefore b_mo_isBefore 7 (some .boolean) :: gt_)) := gt_V l_mo_86 m_mo_isBefore e_mo_isBefore s_mo k_mo_isBefore
theorem l_la_68 : Cond.methodLink "TransitRowsLaw" 68 y_mo_load ∈ gt_ := gt_i 638 (by decide +kernel) (by decide +kernel)
theorem g_la_68 : GoodIn gt_ (wsV "TransitRowsLaw" 68 "TransitRowsModel" y_mo_load (Cond.code y_mo_load b_mo_load 8 (some .int) :: gt_)) := gt_V l_la_68 m_mo_load e_mo_load s_mo k_mo_load
theorem l_mo_95 : Cond.methodLink "TransitRowsModel" 95 y_mo_put ∈ gt_ := gt_i 642 (by decide +kernel) (by decide +kernel)
theorem g_mo_95 : GoodIn gt_ (wsV "TransitRowsModel" 95 "TransitRowsModel" y_mo_put (Cond.code y_mo_put b_mo_put 3 none :: gt_)) := gt_V l_mo_95 m_mo_put e_mo_put s_mo k_mo_put
theorem l_mo_99 : Cond.methodLink "TransitRowsModel" 99 y_mo_tell ∈ gt_ := gt_i 646 (by decide +kernel) (by decide +kernel)
theorem g_mo_99 : GoodIn gt_ (wsV "TransitRowsModel" 99 "TransitRowsModel" y_mo_tell (Cond.code y_mo_tell b_mo_tell 3 none :: gt_)) := gt_V l_mo_99 m_mo_tell e_mo_tell s_mo k_mo_tell
theorem l_la_72 : Cond.methodLink "TransitRowsLaw" 72 y_mo_loaded ∈ gt_ := gt_i 650 (by decide +kernel) (by decide +kernel)
theorem g_la_72 : GoodIn gt_ (wsV "TransitRowsLaw" 72 "TransitRowsModel" y_mo_loaded (Cond.code y_mo_loaded b_mo_loaded 4 (some .int) :: gt_)) := gt_V l_la_72 m_mo_loaded e_mo_loaded s_mo k_mo_loaded
theorem l_la_76 : Cond.methodLink "TransitRowsLaw" 76 y_mo_missing ∈ gt_ := gt_i 654 (by decide +kernel) (by decide +kernel)
theorem g_la_76 : GoodIn gt_ (wsV "TransitRowsLaw" 76 "TransitRowsModel" y_mo_missing (Cond.code y_mo_missing b_mo_missing 6 (some .int) :: gt_)) := gt_V l_la_76 m_mo_missing e_mo_missing s_mo k_mo_missing
theorem l_la_80 : Cond.methodLink "TransitRowsLaw" 80 y_mo_arrive ∈ gt_ := gt_i 658 (by decide +kernel) (by decide +kernel)
theorem g_la_80 : GoodIn gt_ (wsV "TransitRowsLaw" 80 "TransitRowsModel" y_mo_arrive (Cond.code y_mo_arrive b_mo_arrive 6 (some .int) :: gt_)) := gt_V l_la_80 m_mo_arrive e_mo_arrive s_mo k_mo_arrive
theorem l_la_84 : Cond.methodLink "TransitRowsLaw" 84 y_mo_lost ∈ gt_ := gt_i 662 (by decide +kernel) (by decide +kernel)
theorem g_la_84 : GoodIn gt_ (wsV "TransitRowsLaw" 84 "TransitRowsModel" y_mo_lost (Cond.code y_mo_lost b_mo_lost 4 (some .int) :: gt_)) := gt_V l_la_84 m_mo_lost e_mo_lost s_mo k_mo_lost
theorem l_la_88 : Cond.methodLink "TransitRowsLaw" 88 y_mo_slip ∈ gt_ := gt_i 666 (by decide +kernel) (by decide +kernel)
theorem g_la_88 : GoodIn gt_ (wsV "TransitRowsLaw" 88 "TransitRowsModel" y_mo_slip (Cond.code y_mo_slip b_mo_slip 3 (some .int) :: gt_)) := gt_V l_la_88 m_mo_slip e_mo_slip s_mo k_mo_slip
theorem l_la_92 : Cond.methodLink "TransitRowsLaw" 92 y_mo_where ∈ gt_ := gt_i 670 (by decide +kernel) (by decide +kernel)
theorem g_la_92 : GoodIn gt_ (wsV "TransitRowsLaw" 92 "TransitRowsModel" y_mo_where (Cond.code y_mo_where b_mo_where 3 (some .int) :: gt_)) := gt_V l_la_92 m_mo_where e_mo_where s_mo k_mo_where
theorem l_la_98 : Cond.methodLink "TransitRowsLaw" 98 y_mo_statistics ∈ gt_ := gt_i 674 (by decide +kernel) (by decide +kernel)
theorem g_la_98 : GoodIn gt_ (wsV "TransitRowsLaw" 98 "TransitRowsModel" y_mo_statistics (Cond.code y_mo_statistics b_mo_statistics 10 (some .int) :: gt_)) := gt_V l_la_98 m_mo_statistics e_mo_statistics s_mo k_mo_statistics
theorem l_la_105 : Cond.methodLink "TransitRowsLaw" 105 y_mo_told ∈ gt_ := gt_i 678 (by decide +kernel) (by decide +kernel)
theorem g_la_105 : GoodIn gt_ (wsV "TransitRowsLaw" 105 "TransitRowsModel" y_mo_told (Cond.code y_mo_told b_mo_told 3 (some .int) :: gt_)) := gt_V l_la_105 m_mo_told e_mo_told s_mo k_mo_told
theorem m_obj : Cond.instanceMethod Lib.objectInit ∈ gt_ := gt_i 21 (by decide +kernel) (by decide +kernel)
theorem k_obj : Cond.code Lib.objectInit ⟨#[0xb1]⟩ 1 none ∈ gt_ := gt_i 22 (by decide +kernel) (by decide +kernel)
theorem a_math_min : Cond.static Lib.Math.min.name ∈ gt_ := gt_i 350 (by decide +kernel) (by decide +kernel)
theorem k_math_min : Cond.code Lib.Math.min.name Lib.Math.min.code 2 (some .int) ∈ gt_ := gt_i 351 (by decide +kernel) (by decide +kernel)
theorem a_math_max : Cond.static Lib.Math.max.name ∈ gt_ := gt_i 429 (by decide +kernel) (by decide +kernel)
theorem k_math_max : Cond.code Lib.Math.max.name Lib.Math.max.code 2 (some .int) ∈ gt_ := gt_i 430 (by decide +kernel) (by decide +kernel)
theorem v_int : Cond.arrayClass .int ∈ gt_ := gt_i 60 (by decide +kernel) (by decide +kernel)
theorem v_boolean : Cond.arrayClass .boolean ∈ gt_ := gt_i 37 (by decide +kernel) (by decide +kernel)
theorem v_long : Cond.arrayClass .long ∈ gt_ := gt_i 682 (by decide +kernel) (by decide +kernel)
def nst_ : List Cond := [.methodLinkNest "TransitRows" 9 ⟨"TransitRows$Places", "<init>", "()V"⟩ "TransitRows", .methodLinkNest "TransitRows" 18 ⟨"TransitRows$Routes", "<init>", "()V"⟩ "TransitRows", .methodLinkNest "TransitRows$Routes" 32 ⟨"TransitRows$LeftOut", "<init>", "()V"⟩ "TransitRows", .methodLinkNest "TransitRows" 25 ⟨"TransitRows$Copies", "<init>", "()V"⟩ "TransitRows", .methodLinkNest "TransitRows" 32 ⟨"TransitRows$Slips", "<init>", "()V"⟩ "TransitRows", .methodLinkNest "TransitRows" 39 ⟨"TransitRows$Loads", "<init>", "()V"⟩ "TransitRows", .methodLinkNest "TransitRows" 46 ⟨"TransitRows$Tellings", "<init>", "()V"⟩ "TransitRows"]
theorem h_tr_9 : Cond.methodLinkNest "TransitRows" 9 y_pl_init "TransitRows" ∈ nst_ := List.mem_of_getElem? (i := 0) rfl
theorem h_tr_18 : Cond.methodLinkNest "TransitRows" 18 y_ro_init "TransitRows" ∈ nst_ := List.mem_of_getElem? (i := 1) rfl
theorem h_ro_32 : Cond.methodLinkNest "TransitRows$Routes" 32 y_lo_init "TransitRows" ∈ nst_ := List.mem_of_getElem? (i := 2) rfl
theorem h_tr_25 : Cond.methodLinkNest "TransitRows" 25 y_cp_init "TransitRows" ∈ nst_ := List.mem_of_getElem? (i := 3) rfl
theorem h_tr_32 : Cond.methodLinkNest "TransitRows" 32 y_sl_init "TransitRows" ∈ nst_ := List.mem_of_getElem? (i := 4) rfl
theorem h_tr_39 : Cond.methodLinkNest "TransitRows" 39 y_ld_init "TransitRows" ∈ nst_ := List.mem_of_getElem? (i := 5) rfl
theorem h_tr_46 : Cond.methodLinkNest "TransitRows" 46 y_te_init "TransitRows" ∈ nst_ := List.mem_of_getElem? (i := 6) rfl
end
section
theorem d_pl_init_0 : decode b_pl_init 0 = .ok (.aload_n 0, 1) := by decide +kernel
theorem d_pl_init_1 : decode b_pl_init 1 = .ok (.invokespecial 3, 3) := by decide +kernel
theorem d_pl_init_4 : decode b_pl_init 4 = .ok (.aload_n 0, 1) := by decide +kernel
theorem d_pl_init_5 : decode b_pl_init 5 = .ok (.bipush 12, 2) := by decide +kernel
theorem d_pl_init_7 : decode b_pl_init 7 = .ok (.newarray .boolean, 2) := by decide +kernel
theorem d_pl_init_9 : decode b_pl_init 9 = .ok (.putfield 9, 3) := by decide +kernel
theorem d_pl_init_12 : decode b_pl_init 12 = .ok (.return_, 1) := by decide +kernel
theorem d_ro_init_0 : decode b_ro_init 0 = .ok (.aload_n 0, 1) := by decide +kernel
theorem d_ro_init_1 : decode b_ro_init 1 = .ok (.invokespecial 3, 3) := by decide +kernel
theorem d_ro_init_4 : decode b_ro_init 4 = .ok (.aload_n 0, 1) := by decide +kernel
theorem d_ro_init_5 : decode b_ro_init 5 = .ok (.bipush 40, 2) := by decide +kernel
theorem d_ro_init_7 : decode b_ro_init 7 = .ok (.newarray .int, 2) := by decide +kernel
theorem d_ro_init_9 : decode b_ro_init 9 = .ok (.putfield 9, 3) := by decide +kernel
theorem d_ro_init_12 : decode b_ro_init 12 = .ok (.aload_n 0, 1) := by decide +kernel
theorem d_ro_init_13 : decode b_ro_init 13 = .ok (.bipush 40, 2) := by decide +kernel
theorem d_ro_init_15 : decode b_ro_init 15 = .ok (.newarray .int, 2) := by decide +kernel
theorem d_ro_init_17 : decode b_ro_init 17 = .ok (.putfield 15, 3) := by decide +kernel
theorem d_ro_init_20 : decode b_ro_init 20 = .ok (.aload_n 0, 1) := by decide +kernel
theorem d_ro_init_21 : decode b_ro_init 21 = .ok (.bipush 40, 2) := by decide +kernel
theorem d_ro_init_23 : decode b_ro_init 23 = .ok (.newarray .int, 2) := by decide +kernel
theorem d_ro_init_25 : decode b_ro_init 25 = .ok (.putfield 18, 3) := by decide +kernel
theorem d_ro_init_28 : decode b_ro_init 28 = .ok (.aload_n 0, 1) := by decide +kernel
theorem d_ro_init_29 : decode b_ro_init 29 = .ok (.bipush 40, 2) := by decide +kernel
theorem d_ro_init_31 : decode b_ro_init 31 = .ok (.newarray .int, 2) := by decide +kernel
theorem d_ro_init_33 : decode b_ro_init 33 = .ok (.putfield 21, 3) := by decide +kernel
theorem d_ro_init_36 : decode b_ro_init 36 = .ok (.aload_n 0, 1) := by decide +kernel
theorem d_ro_init_37 : decode b_ro_init 37 = .ok (.bipush 40, 2) := by decide +kernel
theorem d_ro_init_39 : decode b_ro_init 39 = .ok (.newarray .int, 2) := by decide +kernel
theorem d_ro_init_41 : decode b_ro_init 41 = .ok (.putfield 24, 3) := by decide +kernel
theorem d_ro_init_44 : decode b_ro_init 44 = .ok (.aload_n 0, 1) := by decide +kernel
theorem d_ro_init_45 : decode b_ro_init 45 = .ok (.bipush 40, 2) := by decide +kernel
theorem d_ro_init_47 : decode b_ro_init 47 = .ok (.newarray .int, 2) := by decide +kernel
theorem d_ro_init_49 : decode b_ro_init 49 = .ok (.putfield 27, 3) := by decide +kernel
theorem d_ro_init_52 : decode b_ro_init 52 = .ok (.aload_n 0, 1) := by decide +kernel
theorem d_ro_init_53 : decode b_ro_init 53 = .ok (.new 30, 3) := by decide +kernel
theorem d_ro_init_56 : decode b_ro_init 56 = .ok (.dup, 1) := by decide +kernel
theorem d_ro_init_57 : decode b_ro_init 57 = .ok (.invokespecial 32, 3) := by decide +kernel
theorem d_ro_init_60 : decode b_ro_init 60 = .ok (.putfield 33, 3) := by decide +kernel
theorem d_ro_init_63 : decode b_ro_init 63 = .ok (.return_, 1) := by decide +kernel
theorem d_lo_init_0 : decode b_lo_init 0 = .ok (.aload_n 0, 1) := by decide +kernel
theorem d_lo_init_1 : decode b_lo_init 1 = .ok (.invokespecial 3, 3) := by decide +kernel
theorem d_lo_init_4 : decode b_lo_init 4 = .ok (.aload_n 0, 1) := by decide +kernel
theorem d_lo_init_5 : decode b_lo_init 5 = .ok (.bipush 60, 2) := by decide +kernel
theorem d_lo_init_7 : decode b_lo_init 7 = .ok (.newarray .int, 2) := by decide +kernel
theorem d_lo_init_9 : decode b_lo_init 9 = .ok (.putfield 9, 3) := by decide +kernel
theorem d_lo_init_12 : decode b_lo_init 12 = .ok (.aload_n 0, 1) := by decide +kernel
theorem d_lo_init_13 : decode b_lo_init 13 = .ok (.bipush 60, 2) := by decide +kernel
theorem d_lo_init_15 : decode b_lo_init 15 = .ok (.newarray .int, 2) := by decide +kernel
theorem d_lo_init_17 : decode b_lo_init 17 = .ok (.putfield 15, 3) := by decide +kernel
theorem d_lo_init_20 : decode b_lo_init 20 = .ok (.return_, 1) := by decide +kernel
theorem d_cp_init_0 : decode b_cp_init 0 = .ok (.aload_n 0, 1) := by decide +kernel
theorem d_cp_init_1 : decode b_cp_init 1 = .ok (.invokespecial 3, 3) := by decide +kernel
theorem d_cp_init_4 : decode b_cp_init 4 = .ok (.aload_n 0, 1) := by decide +kernel
theorem d_cp_init_5 : decode b_cp_init 5 = .ok (.bipush 61, 2) := by decide +kernel
theorem d_cp_init_7 : decode b_cp_init 7 = .ok (.newarray .int, 2) := by decide +kernel
theorem d_cp_init_9 : decode b_cp_init 9 = .ok (.putfield 9, 3) := by decide +kernel
theorem d_cp_init_12 : decode b_cp_init 12 = .ok (.aload_n 0, 1) := by decide +kernel
theorem d_cp_init_13 : decode b_cp_init 13 = .ok (.bipush 61, 2) := by decide +kernel
theorem d_cp_init_15 : decode b_cp_init 15 = .ok (.newarray .int, 2) := by decide +kernel
theorem d_cp_init_17 : decode b_cp_init 17 = .ok (.putfield 15, 3) := by decide +kernel
theorem d_cp_init_20 : decode b_cp_init 20 = .ok (.aload_n 0, 1) := by decide +kernel
theorem d_cp_init_21 : decode b_cp_init 21 = .ok (.bipush 61, 2) := by decide +kernel
theorem d_cp_init_23 : decode b_cp_init 23 = .ok (.newarray .int, 2) := by decide +kernel
theorem d_cp_init_25 : decode b_cp_init 25 = .ok (.putfield 18, 3) := by decide +kernel
theorem d_cp_init_28 : decode b_cp_init 28 = .ok (.aload_n 0, 1) := by decide +kernel
theorem d_cp_init_29 : decode b_cp_init 29 = .ok (.bipush 61, 2) := by decide +kernel
theorem d_cp_init_31 : decode b_cp_init 31 = .ok (.newarray .boolean, 2) := by decide +kernel
theorem d_cp_init_33 : decode b_cp_init 33 = .ok (.putfield 21, 3) := by decide +kernel
theorem d_cp_init_36 : decode b_cp_init 36 = .ok (.aload_n 0, 1) := by decide +kernel
theorem d_cp_init_37 : decode b_cp_init 37 = .ok (.bipush 61, 2) := by decide +kernel
theorem d_cp_init_39 : decode b_cp_init 39 = .ok (.newarray .boolean, 2) := by decide +kernel
theorem d_cp_init_41 : decode b_cp_init 41 = .ok (.putfield 25, 3) := by decide +kernel
theorem d_cp_init_44 : decode b_cp_init 44 = .ok (.return_, 1) := by decide +kernel
theorem d_sl_init_0 : decode b_sl_init 0 = .ok (.aload_n 0, 1) := by decide +kernel
theorem d_sl_init_1 : decode b_sl_init 1 = .ok (.invokespecial 3, 3) := by decide +kernel
theorem d_sl_init_4 : decode b_sl_init 4 = .ok (.aload_n 0, 1) := by decide +kernel
theorem d_sl_init_5 : decode b_sl_init 5 = .ok (.sipush 151, 3) := by decide +kernel
theorem d_sl_init_8 : decode b_sl_init 8 = .ok (.newarray .int, 2) := by decide +kernel
theorem d_sl_init_10 : decode b_sl_init 10 = .ok (.putfield 9, 3) := by decide +kernel
theorem d_sl_init_13 : decode b_sl_init 13 = .ok (.aload_n 0, 1) := by decide +kernel
theorem d_sl_init_14 : decode b_sl_init 14 = .ok (.sipush 151, 3) := by decide +kernel
theorem d_sl_init_17 : decode b_sl_init 17 = .ok (.newarray .int, 2) := by decide +kernel
theorem d_sl_init_19 : decode b_sl_init 19 = .ok (.putfield 15, 3) := by decide +kernel
theorem d_sl_init_22 : decode b_sl_init 22 = .ok (.aload_n 0, 1) := by decide +kernel
theorem d_sl_init_23 : decode b_sl_init 23 = .ok (.sipush 151, 3) := by decide +kernel
theorem d_sl_init_26 : decode b_sl_init 26 = .ok (.newarray .int, 2) := by decide +kernel
theorem d_sl_init_28 : decode b_sl_init 28 = .ok (.putfield 18, 3) := by decide +kernel
theorem d_sl_init_31 : decode b_sl_init 31 = .ok (.aload_n 0, 1) := by decide +kernel
theorem d_sl_init_32 : decode b_sl_init 32 = .ok (.sipush 151, 3) := by decide +kernel
theorem d_sl_init_35 : decode b_sl_init 35 = .ok (.newarray .int, 2) := by decide +kernel
theorem d_sl_init_37 : decode b_sl_init 37 = .ok (.putfield 21, 3) := by decide +kernel
theorem d_sl_init_40 : decode b_sl_init 40 = .ok (.aload_n 0, 1) := by decide +kernel
theorem d_sl_init_41 : decode b_sl_init 41 = .ok (.sipush 151, 3) := by decide +kernel
theorem d_sl_init_44 : decode b_sl_init 44 = .ok (.newarray .int, 2) := by decide +kernel
theorem d_sl_init_46 : decode b_sl_init 46 = .ok (.putfield 24, 3) := by decide +kernel
theorem d_sl_init_49 : decode b_sl_init 49 = .ok (.aload_n 0, 1) := by decide +kernel
theorem d_sl_init_50 : decode b_sl_init 50 = .ok (.sipush 151, 3) := by decide +kernel
theorem d_sl_init_53 : decode b_sl_init 53 = .ok (.newarray .int, 2) := by decide +kernel
theorem d_sl_init_55 : decode b_sl_init 55 = .ok (.putfield 27, 3) := by decide +kernel
theorem d_sl_init_58 : decode b_sl_init 58 = .ok (.return_, 1) := by decide +kernel
theorem d_ld_init_0 : decode b_ld_init 0 = .ok (.aload_n 0, 1) := by decide +kernel
theorem d_ld_init_1 : decode b_ld_init 1 = .ok (.invokespecial 3, 3) := by decide +kernel
theorem d_ld_init_4 : decode b_ld_init 4 = .ok (.aload_n 0, 1) := by decide +kernel
theorem d_ld_init_5 : decode b_ld_init 5 = .ok (.bipush 61, 2) := by decide +kernel
theorem d_ld_init_7 : decode b_ld_init 7 = .ok (.newarray .int, 2) := by decide +kernel
theorem d_ld_init_9 : decode b_ld_init 9 = .ok (.putfield 9, 3) := by decide +kernel
theorem d_ld_init_12 : decode b_ld_init 12 = .ok (.aload_n 0, 1) := by decide +kernel
theorem d_ld_init_13 : decode b_ld_init 13 = .ok (.sipush 150, 3) := by decide +kernel
theorem d_ld_init_16 : decode b_ld_init 16 = .ok (.newarray .int, 2) := by decide +kernel
theorem d_ld_init_18 : decode b_ld_init 18 = .ok (.putfield 15, 3) := by decide +kernel
theorem d_ld_init_21 : decode b_ld_init 21 = .ok (.return_, 1) := by decide +kernel
theorem d_te_init_0 : decode b_te_init 0 = .ok (.aload_n 0, 1) := by decide +kernel
theorem d_te_init_1 : decode b_te_init 1 = .ok (.invokespecial 3, 3) := by decide +kernel
theorem d_te_init_4 : decode b_te_init 4 = .ok (.aload_n 0, 1) := by decide +kernel
theorem d_te_init_5 : decode b_te_init 5 = .ok (.bipush 100, 2) := by decide +kernel
theorem d_te_init_7 : decode b_te_init 7 = .ok (.newarray .int, 2) := by decide +kernel
theorem d_te_init_9 : decode b_te_init 9 = .ok (.putfield 9, 3) := by decide +kernel
theorem d_te_init_12 : decode b_te_init 12 = .ok (.aload_n 0, 1) := by decide +kernel
theorem d_te_init_13 : decode b_te_init 13 = .ok (.bipush 100, 2) := by decide +kernel
theorem d_te_init_15 : decode b_te_init 15 = .ok (.newarray .int, 2) := by decide +kernel
theorem d_te_init_17 : decode b_te_init 17 = .ok (.putfield 15, 3) := by decide +kernel
theorem d_te_init_20 : decode b_te_init 20 = .ok (.return_, 1) := by decide +kernel
theorem d_pl_add_0 : decode b_pl_add 0 = .ok (.aload_n 0, 1) := by decide +kernel
theorem d_pl_add_1 : decode b_pl_add 1 = .ok (.getfield 15, 3) := by decide +kernel
theorem d_pl_add_4 : decode b_pl_add 4 = .ok (.bipush 12, 2) := by decide +kernel
theorem d_pl_add_6 : decode b_pl_add 6 = .ok (.if_icmp .ne 5, 3) := by decide +kernel
theorem d_pl_add_9 : decode b_pl_add 9 = .ok (.iconst (-1), 1) := by decide +kernel
theorem d_pl_add_10 : decode b_pl_add 10 = .ok (.ireturn, 1) := by decide +kernel
theorem d_pl_add_11 : decode b_pl_add 11 = .ok (.aload_n 0, 1) := by decide +kernel
theorem d_pl_add_12 : decode b_pl_add 12 = .ok (.getfield 9, 3) := by decide +kernel
theorem d_pl_add_15 : decode b_pl_add 15 = .ok (.aload_n 0, 1) := by decide +kernel
theorem d_pl_add_16 : decode b_pl_add 16 = .ok (.getfield 15, 3) := by decide +kernel
theorem d_pl_add_19 : decode b_pl_add 19 = .ok (.iconst 1, 1) := by decide +kernel
theorem d_pl_add_20 : decode b_pl_add 20 = .ok (.bastore, 1) := by decide +kernel
theorem d_pl_add_21 : decode b_pl_add 21 = .ok (.aload_n 0, 1) := by decide +kernel
theorem d_pl_add_22 : decode b_pl_add 22 = .ok (.dup, 1) := by decide +kernel
theorem d_pl_add_23 : decode b_pl_add 23 = .ok (.getfield 15, 3) := by decide +kernel
theorem d_pl_add_26 : decode b_pl_add 26 = .ok (.dup_x1, 1) := by decide +kernel
theorem d_pl_add_27 : decode b_pl_add 27 = .ok (.iconst 1, 1) := by decide +kernel
theorem d_pl_add_28 : decode b_pl_add 28 = .ok (.iadd, 1) := by decide +kernel
theorem d_pl_add_29 : decode b_pl_add 29 = .ok (.putfield 15, 3) := by decide +kernel
theorem d_pl_add_32 : decode b_pl_add 32 = .ok (.ireturn, 1) := by decide +kernel
theorem d_pl_has_0 : decode b_pl_has 0 = .ok (.iload_n 1, 1) := by decide +kernel
theorem d_pl_has_1 : decode b_pl_has 1 = .ok (.ifCond .lt 15, 3) := by decide +kernel
theorem d_pl_has_4 : decode b_pl_has 4 = .ok (.iload_n 1, 1) := by decide +kernel
theorem d_pl_has_5 : decode b_pl_has 5 = .ok (.aload_n 0, 1) := by decide +kernel
theorem d_pl_has_6 : decode b_pl_has 6 = .ok (.getfield 15, 3) := by decide +kernel
theorem d_pl_has_9 : decode b_pl_has 9 = .ok (.if_icmp .ge 7, 3) := by decide +kernel
theorem d_pl_has_12 : decode b_pl_has 12 = .ok (.iconst 1, 1) := by decide +kernel
theorem d_pl_has_13 : decode b_pl_has 13 = .ok (.goto 4, 3) := by decide +kernel
theorem d_pl_has_16 : decode b_pl_has 16 = .ok (.iconst 0, 1) := by decide +kernel
theorem d_pl_has_17 : decode b_pl_has 17 = .ok (.ireturn, 1) := by decide +kernel
theorem d_ro_add_0 : decode b_ro_add 0 = .ok (.aload_n 0, 1) := by decide +kernel
theorem d_ro_add_1 : decode b_ro_add 1 = .ok (.getfield 37, 3) := by decide +kernel
theorem d_ro_add_4 : decode b_ro_add 4 = .ok (.bipush 40, 2) := by decide +kernel
theorem d_ro_add_6 : decode b_ro_add 6 = .ok (.if_icmp .ne 5, 3) := by decide +kernel
theorem d_ro_add_9 : decode b_ro_add 9 = .ok (.iconst (-1), 1) := by decide +kernel
theorem d_ro_add_10 : decode b_ro_add 10 = .ok (.ireturn, 1) := by decide +kernel
theorem d_ro_add_11 : decode b_ro_add 11 = .ok (.aload_n 0, 1) := by decide +kernel
theorem d_ro_add_12 : decode b_ro_add 12 = .ok (.getfield 9, 3) := by decide +kernel
theorem d_ro_add_15 : decode b_ro_add 15 = .ok (.aload_n 0, 1) := by decide +kernel
theorem d_ro_add_16 : decode b_ro_add 16 = .ok (.getfield 37, 3) := by decide +kernel
theorem d_ro_add_19 : decode b_ro_add 19 = .ok (.iload_n 1, 1) := by decide +kernel
theorem d_ro_add_20 : decode b_ro_add 20 = .ok (.iastore, 1) := by decide +kernel
theorem d_ro_add_21 : decode b_ro_add 21 = .ok (.aload_n 0, 1) := by decide +kernel
theorem d_ro_add_22 : decode b_ro_add 22 = .ok (.getfield 15, 3) := by decide +kernel
theorem d_ro_add_25 : decode b_ro_add 25 = .ok (.aload_n 0, 1) := by decide +kernel
theorem d_ro_add_26 : decode b_ro_add 26 = .ok (.getfield 37, 3) := by decide +kernel
theorem d_ro_add_29 : decode b_ro_add 29 = .ok (.iload_n 2, 1) := by decide +kernel
theorem d_ro_add_30 : decode b_ro_add 30 = .ok (.iastore, 1) := by decide +kernel
theorem d_ro_add_31 : decode b_ro_add 31 = .ok (.aload_n 0, 1) := by decide +kernel
theorem d_ro_add_32 : decode b_ro_add 32 = .ok (.getfield 18, 3) := by decide +kernel
theorem d_ro_add_35 : decode b_ro_add 35 = .ok (.aload_n 0, 1) := by decide +kernel
theorem d_ro_add_36 : decode b_ro_add 36 = .ok (.getfield 37, 3) := by decide +kernel
theorem d_ro_add_39 : decode b_ro_add 39 = .ok (.iload_n 3, 1) := by decide +kernel
theorem d_ro_add_40 : decode b_ro_add 40 = .ok (.iastore, 1) := by decide +kernel
theorem d_ro_add_41 : decode b_ro_add 41 = .ok (.aload_n 0, 1) := by decide +kernel
theorem d_ro_add_42 : decode b_ro_add 42 = .ok (.getfield 21, 3) := by decide +kernel
theorem d_ro_add_45 : decode b_ro_add 45 = .ok (.aload_n 0, 1) := by decide +kernel
theorem d_ro_add_46 : decode b_ro_add 46 = .ok (.getfield 37, 3) := by decide +kernel
theorem d_ro_add_49 : decode b_ro_add 49 = .ok (.iload 4, 2) := by decide +kernel
theorem d_ro_add_51 : decode b_ro_add 51 = .ok (.iastore, 1) := by decide +kernel
theorem d_ro_add_52 : decode b_ro_add 52 = .ok (.aload_n 0, 1) := by decide +kernel
theorem d_ro_add_53 : decode b_ro_add 53 = .ok (.getfield 24, 3) := by decide +kernel
theorem d_ro_add_56 : decode b_ro_add 56 = .ok (.aload_n 0, 1) := by decide +kernel
theorem d_ro_add_57 : decode b_ro_add 57 = .ok (.getfield 37, 3) := by decide +kernel
theorem d_ro_add_60 : decode b_ro_add 60 = .ok (.iload 5, 2) := by decide +kernel
theorem d_ro_add_62 : decode b_ro_add 62 = .ok (.iastore, 1) := by decide +kernel
theorem d_ro_add_63 : decode b_ro_add 63 = .ok (.aload_n 0, 1) := by decide +kernel
theorem d_ro_add_64 : decode b_ro_add 64 = .ok (.getfield 27, 3) := by decide +kernel
theorem d_ro_add_67 : decode b_ro_add 67 = .ok (.aload_n 0, 1) := by decide +kernel
theorem d_ro_add_68 : decode b_ro_add 68 = .ok (.getfield 37, 3) := by decide +kernel
theorem d_ro_add_71 : decode b_ro_add 71 = .ok (.iconst (-1), 1) := by decide +kernel
theorem d_ro_add_72 : decode b_ro_add 72 = .ok (.iastore, 1) := by decide +kernel
theorem d_ro_add_73 : decode b_ro_add 73 = .ok (.aload_n 0, 1) := by decide +kernel
theorem d_ro_add_74 : decode b_ro_add 74 = .ok (.dup, 1) := by decide +kernel
theorem d_ro_add_75 : decode b_ro_add 75 = .ok (.getfield 37, 3) := by decide +kernel
theorem d_ro_add_78 : decode b_ro_add 78 = .ok (.dup_x1, 1) := by decide +kernel
theorem d_ro_add_79 : decode b_ro_add 79 = .ok (.iconst 1, 1) := by decide +kernel
theorem d_ro_add_80 : decode b_ro_add 80 = .ok (.iadd, 1) := by decide +kernel
theorem d_ro_add_81 : decode b_ro_add 81 = .ok (.putfield 37, 3) := by decide +kernel
theorem d_ro_add_84 : decode b_ro_add 84 = .ok (.ireturn, 1) := by decide +kernel
theorem d_ro_has_0 : decode b_ro_has 0 = .ok (.iload_n 1, 1) := by decide +kernel
theorem d_ro_has_1 : decode b_ro_has 1 = .ok (.ifCond .lt 15, 3) := by decide +kernel
theorem d_ro_has_4 : decode b_ro_has 4 = .ok (.iload_n 1, 1) := by decide +kernel
theorem d_ro_has_5 : decode b_ro_has 5 = .ok (.aload_n 0, 1) := by decide +kernel
theorem d_ro_has_6 : decode b_ro_has 6 = .ok (.getfield 37, 3) := by decide +kernel
theorem d_ro_has_9 : decode b_ro_has 9 = .ok (.if_icmp .ge 7, 3) := by decide +kernel
theorem d_ro_has_12 : decode b_ro_has 12 = .ok (.iconst 1, 1) := by decide +kernel
theorem d_ro_has_13 : decode b_ro_has 13 = .ok (.goto 4, 3) := by decide +kernel
theorem d_ro_has_16 : decode b_ro_has 16 = .ok (.iconst 0, 1) := by decide +kernel
theorem d_ro_has_17 : decode b_ro_has 17 = .ok (.ireturn, 1) := by decide +kernel
theorem d_lo_add_0 : decode b_lo_add 0 = .ok (.aload_n 0, 1) := by decide +kernel
theorem d_lo_add_1 : decode b_lo_add 1 = .ok (.getfield 18, 3) := by decide +kernel
theorem d_lo_add_4 : decode b_lo_add 4 = .ok (.bipush 60, 2) := by decide +kernel
theorem d_lo_add_6 : decode b_lo_add 6 = .ok (.if_icmp .eq 13, 3) := by decide +kernel
theorem d_lo_add_9 : decode b_lo_add 9 = .ok (.aload_n 0, 1) := by decide +kernel
theorem d_lo_add_10 : decode b_lo_add 10 = .ok (.iload_n 1, 1) := by decide +kernel
theorem d_lo_add_11 : decode b_lo_add 11 = .ok (.iload_n 2, 1) := by decide +kernel
theorem d_lo_add_12 : decode b_lo_add 12 = .ok (.invokevirtual 22, 3) := by decide +kernel
theorem d_lo_add_15 : decode b_lo_add 15 = .ok (.iconst (-1), 1) := by decide +kernel
theorem d_lo_add_16 : decode b_lo_add 16 = .ok (.if_icmp .eq 5, 3) := by decide +kernel
theorem d_lo_add_19 : decode b_lo_add 19 = .ok (.iconst 0, 1) := by decide +kernel
theorem d_lo_add_20 : decode b_lo_add 20 = .ok (.ireturn, 1) := by decide +kernel
theorem d_lo_add_21 : decode b_lo_add 21 = .ok (.aload_n 0, 1) := by decide +kernel
theorem d_lo_add_22 : decode b_lo_add 22 = .ok (.getfield 9, 3) := by decide +kernel
theorem d_lo_add_25 : decode b_lo_add 25 = .ok (.aload_n 0, 1) := by decide +kernel
theorem d_lo_add_26 : decode b_lo_add 26 = .ok (.getfield 18, 3) := by decide +kernel
theorem d_lo_add_29 : decode b_lo_add 29 = .ok (.iload_n 1, 1) := by decide +kernel
theorem d_lo_add_30 : decode b_lo_add 30 = .ok (.iastore, 1) := by decide +kernel
theorem d_lo_add_31 : decode b_lo_add 31 = .ok (.aload_n 0, 1) := by decide +kernel
theorem d_lo_add_32 : decode b_lo_add 32 = .ok (.getfield 15, 3) := by decide +kernel
theorem d_lo_add_35 : decode b_lo_add 35 = .ok (.aload_n 0, 1) := by decide +kernel
theorem d_lo_add_36 : decode b_lo_add 36 = .ok (.getfield 18, 3) := by decide +kernel
theorem d_lo_add_39 : decode b_lo_add 39 = .ok (.iload_n 2, 1) := by decide +kernel
theorem d_lo_add_40 : decode b_lo_add 40 = .ok (.iastore, 1) := by decide +kernel
theorem d_lo_add_41 : decode b_lo_add 41 = .ok (.aload_n 0, 1) := by decide +kernel
theorem d_lo_add_42 : decode b_lo_add 42 = .ok (.dup, 1) := by decide +kernel
theorem d_lo_add_43 : decode b_lo_add 43 = .ok (.getfield 18, 3) := by decide +kernel
theorem d_lo_add_46 : decode b_lo_add 46 = .ok (.iconst 1, 1) := by decide +kernel
theorem d_lo_add_47 : decode b_lo_add 47 = .ok (.iadd, 1) := by decide +kernel
theorem d_lo_add_48 : decode b_lo_add 48 = .ok (.putfield 18, 3) := by decide +kernel
theorem d_lo_add_51 : decode b_lo_add 51 = .ok (.iconst 1, 1) := by decide +kernel
theorem d_lo_add_52 : decode b_lo_add 52 = .ok (.ireturn, 1) := by decide +kernel
theorem d_lo_find_0 : decode b_lo_find 0 = .ok (.iconst 0, 1) := by decide +kernel
theorem d_lo_find_1 : decode b_lo_find 1 = .ok (.istore_n 3, 1) := by decide +kernel
theorem d_lo_find_2 : decode b_lo_find 2 = .ok (.iload_n 3, 1) := by decide +kernel
theorem d_lo_find_3 : decode b_lo_find 3 = .ok (.aload_n 0, 1) := by decide +kernel
theorem d_lo_find_4 : decode b_lo_find 4 = .ok (.getfield 18, 3) := by decide +kernel
theorem d_lo_find_7 : decode b_lo_find 7 = .ok (.if_icmp .ge 31, 3) := by decide +kernel
theorem d_lo_find_10 : decode b_lo_find 10 = .ok (.aload_n 0, 1) := by decide +kernel
theorem d_lo_find_11 : decode b_lo_find 11 = .ok (.getfield 9, 3) := by decide +kernel
theorem d_lo_find_14 : decode b_lo_find 14 = .ok (.iload_n 3, 1) := by decide +kernel
theorem d_lo_find_15 : decode b_lo_find 15 = .ok (.iaload, 1) := by decide +kernel
theorem d_lo_find_16 : decode b_lo_find 16 = .ok (.iload_n 1, 1) := by decide +kernel
theorem d_lo_find_17 : decode b_lo_find 17 = .ok (.if_icmp .ne 15, 3) := by decide +kernel
theorem d_lo_find_20 : decode b_lo_find 20 = .ok (.aload_n 0, 1) := by decide +kernel
theorem d_lo_find_21 : decode b_lo_find 21 = .ok (.getfield 15, 3) := by decide +kernel
theorem d_lo_find_24 : decode b_lo_find 24 = .ok (.iload_n 3, 1) := by decide +kernel
theorem d_lo_find_25 : decode b_lo_find 25 = .ok (.iaload, 1) := by decide +kernel
theorem d_lo_find_26 : decode b_lo_find 26 = .ok (.iload_n 2, 1) := by decide +kernel
theorem d_lo_find_27 : decode b_lo_find 27 = .ok (.if_icmp .ne 5, 3) := by decide +kernel
theorem d_lo_find_30 : decode b_lo_find 30 = .ok (.iload_n 3, 1) := by decide +kernel
theorem d_lo_find_31 : decode b_lo_find 31 = .ok (.ireturn, 1) := by decide +kernel
theorem d_lo_find_32 : decode b_lo_find 32 = .ok (.iinc 3 1, 3) := by decide +kernel
theorem d_lo_find_35 : decode b_lo_find 35 = .ok (.goto (-33), 3) := by decide +kernel
theorem d_lo_find_38 : decode b_lo_find 38 = .ok (.iconst (-1), 1) := by decide +kernel
theorem d_lo_find_39 : decode b_lo_find 39 = .ok (.ireturn, 1) := by decide +kernel
theorem d_lo_remove_0 : decode b_lo_remove 0 = .ok (.aload_n 0, 1) := by decide +kernel
theorem d_lo_remove_1 : decode b_lo_remove 1 = .ok (.iload_n 1, 1) := by decide +kernel
theorem d_lo_remove_2 : decode b_lo_remove 2 = .ok (.iload_n 2, 1) := by decide +kernel
theorem d_lo_remove_3 : decode b_lo_remove 3 = .ok (.invokevirtual 22, 3) := by decide +kernel
theorem d_lo_remove_6 : decode b_lo_remove 6 = .ok (.istore_n 3, 1) := by decide +kernel
theorem d_lo_remove_7 : decode b_lo_remove 7 = .ok (.iload_n 3, 1) := by decide +kernel
theorem d_lo_remove_8 : decode b_lo_remove 8 = .ok (.iconst (-1), 1) := by decide +kernel
theorem d_lo_remove_9 : decode b_lo_remove 9 = .ok (.if_icmp .ne 5, 3) := by decide +kernel
theorem d_lo_remove_12 : decode b_lo_remove 12 = .ok (.iconst 0, 1) := by decide +kernel
theorem d_lo_remove_13 : decode b_lo_remove 13 = .ok (.ireturn, 1) := by decide +kernel
theorem d_lo_remove_14 : decode b_lo_remove 14 = .ok (.aload_n 0, 1) := by decide +kernel
theorem d_lo_remove_15 : decode b_lo_remove 15 = .ok (.dup, 1) := by decide +kernel
theorem d_lo_remove_16 : decode b_lo_remove 16 = .ok (.getfield 18, 3) := by decide +kernel
theorem d_lo_remove_19 : decode b_lo_remove 19 = .ok (.iconst 1, 1) := by decide +kernel
theorem d_lo_remove_20 : decode b_lo_remove 20 = .ok (.isub, 1) := by decide +kernel
theorem d_lo_remove_21 : decode b_lo_remove 21 = .ok (.putfield 18, 3) := by decide +kernel
theorem d_lo_remove_24 : decode b_lo_remove 24 = .ok (.aload_n 0, 1) := by decide +kernel
theorem d_lo_remove_25 : decode b_lo_remove 25 = .ok (.getfield 9, 3) := by decide +kernel
theorem d_lo_remove_28 : decode b_lo_remove 28 = .ok (.iload_n 3, 1) := by decide +kernel
theorem d_lo_remove_29 : decode b_lo_remove 29 = .ok (.aload_n 0, 1) := by decide +kernel
theorem d_lo_remove_30 : decode b_lo_remove 30 = .ok (.getfield 9, 3) := by decide +kernel
theorem d_lo_remove_33 : decode b_lo_remove 33 = .ok (.aload_n 0, 1) := by decide +kernel
theorem d_lo_remove_34 : decode b_lo_remove 34 = .ok (.getfield 18, 3) := by decide +kernel
theorem d_lo_remove_37 : decode b_lo_remove 37 = .ok (.iaload, 1) := by decide +kernel
theorem d_lo_remove_38 : decode b_lo_remove 38 = .ok (.iastore, 1) := by decide +kernel
theorem d_lo_remove_39 : decode b_lo_remove 39 = .ok (.aload_n 0, 1) := by decide +kernel
theorem d_lo_remove_40 : decode b_lo_remove 40 = .ok (.getfield 15, 3) := by decide +kernel
theorem d_lo_remove_43 : decode b_lo_remove 43 = .ok (.iload_n 3, 1) := by decide +kernel
theorem d_lo_remove_44 : decode b_lo_remove 44 = .ok (.aload_n 0, 1) := by decide +kernel
theorem d_lo_remove_45 : decode b_lo_remove 45 = .ok (.getfield 15, 3) := by decide +kernel
theorem d_lo_remove_48 : decode b_lo_remove 48 = .ok (.aload_n 0, 1) := by decide +kernel
theorem d_lo_remove_49 : decode b_lo_remove 49 = .ok (.getfield 18, 3) := by decide +kernel
theorem d_lo_remove_52 : decode b_lo_remove 52 = .ok (.iaload, 1) := by decide +kernel
theorem d_lo_remove_53 : decode b_lo_remove 53 = .ok (.iastore, 1) := by decide +kernel
theorem d_lo_remove_54 : decode b_lo_remove 54 = .ok (.iconst 1, 1) := by decide +kernel
theorem d_lo_remove_55 : decode b_lo_remove 55 = .ok (.ireturn, 1) := by decide +kernel
theorem d_cp_add_0 : decode b_cp_add 0 = .ok (.aload_n 0, 1) := by decide +kernel
theorem d_cp_add_1 : decode b_cp_add 1 = .ok (.getfield 28, 3) := by decide +kernel
theorem d_cp_add_4 : decode b_cp_add 4 = .ok (.bipush 60, 2) := by decide +kernel
theorem d_cp_add_6 : decode b_cp_add 6 = .ok (.if_icmp .ne 5, 3) := by decide +kernel
theorem d_cp_add_9 : decode b_cp_add 9 = .ok (.iconst 0, 1) := by decide +kernel
theorem d_cp_add_10 : decode b_cp_add 10 = .ok (.ireturn, 1) := by decide +kernel
theorem d_cp_add_11 : decode b_cp_add 11 = .ok (.aload_n 0, 1) := by decide +kernel
theorem d_cp_add_12 : decode b_cp_add 12 = .ok (.dup, 1) := by decide +kernel
theorem d_cp_add_13 : decode b_cp_add 13 = .ok (.getfield 28, 3) := by decide +kernel
theorem d_cp_add_16 : decode b_cp_add 16 = .ok (.iconst 1, 1) := by decide +kernel
theorem d_cp_add_17 : decode b_cp_add 17 = .ok (.iadd, 1) := by decide +kernel
theorem d_cp_add_18 : decode b_cp_add 18 = .ok (.putfield 28, 3) := by decide +kernel
theorem d_cp_add_21 : decode b_cp_add 21 = .ok (.aload_n 0, 1) := by decide +kernel
theorem d_cp_add_22 : decode b_cp_add 22 = .ok (.getfield 9, 3) := by decide +kernel
theorem d_cp_add_25 : decode b_cp_add 25 = .ok (.aload_n 0, 1) := by decide +kernel
theorem d_cp_add_26 : decode b_cp_add 26 = .ok (.getfield 28, 3) := by decide +kernel
theorem d_cp_add_29 : decode b_cp_add 29 = .ok (.iload_n 1, 1) := by decide +kernel
theorem d_cp_add_30 : decode b_cp_add 30 = .ok (.iastore, 1) := by decide +kernel
theorem d_cp_add_31 : decode b_cp_add 31 = .ok (.aload_n 0, 1) := by decide +kernel
theorem d_cp_add_32 : decode b_cp_add 32 = .ok (.getfield 15, 3) := by decide +kernel
theorem d_cp_add_35 : decode b_cp_add 35 = .ok (.aload_n 0, 1) := by decide +kernel
theorem d_cp_add_36 : decode b_cp_add 36 = .ok (.getfield 28, 3) := by decide +kernel
theorem d_cp_add_39 : decode b_cp_add 39 = .ok (.iload_n 1, 1) := by decide +kernel
theorem d_cp_add_40 : decode b_cp_add 40 = .ok (.iastore, 1) := by decide +kernel
theorem d_cp_add_41 : decode b_cp_add 41 = .ok (.aload_n 0, 1) := by decide +kernel
theorem d_cp_add_42 : decode b_cp_add 42 = .ok (.getfield 28, 3) := by decide +kernel
theorem d_cp_add_45 : decode b_cp_add 45 = .ok (.ireturn, 1) := by decide +kernel
theorem d_cp_has_0 : decode b_cp_has 0 = .ok (.iload_n 1, 1) := by decide +kernel
theorem d_cp_has_1 : decode b_cp_has 1 = .ok (.iconst 1, 1) := by decide +kernel
theorem d_cp_has_2 : decode b_cp_has 2 = .ok (.if_icmp .lt 15, 3) := by decide +kernel
theorem d_cp_has_5 : decode b_cp_has 5 = .ok (.iload_n 1, 1) := by decide +kernel
theorem d_cp_has_6 : decode b_cp_has 6 = .ok (.aload_n 0, 1) := by decide +kernel
theorem d_cp_has_7 : decode b_cp_has 7 = .ok (.getfield 28, 3) := by decide +kernel
theorem d_cp_has_10 : decode b_cp_has 10 = .ok (.if_icmp .gt 7, 3) := by decide +kernel
theorem d_cp_has_13 : decode b_cp_has 13 = .ok (.iconst 1, 1) := by decide +kernel
theorem d_cp_has_14 : decode b_cp_has 14 = .ok (.goto 4, 3) := by decide +kernel
theorem d_cp_has_17 : decode b_cp_has 17 = .ok (.iconst 0, 1) := by decide +kernel
theorem d_cp_has_18 : decode b_cp_has 18 = .ok (.ireturn, 1) := by decide +kernel
theorem d_ro_findQuickest_0 : decode b_ro_findQuickest 0 = .ok (.iconst (-1), 1) := by decide +kernel
theorem d_ro_findQuickest_1 : decode b_ro_findQuickest 1 = .ok (.istore 4, 2) := by decide +kernel
theorem d_ro_findQuickest_3 : decode b_ro_findQuickest 3 = .ok (.iconst 0, 1) := by decide +kernel
theorem d_ro_findQuickest_4 : decode b_ro_findQuickest 4 = .ok (.istore 5, 2) := by decide +kernel
theorem d_ro_findQuickest_6 : decode b_ro_findQuickest 6 = .ok (.iconst 0, 1) := by decide +kernel
theorem d_ro_findQuickest_7 : decode b_ro_findQuickest 7 = .ok (.istore 6, 2) := by decide +kernel
theorem d_ro_findQuickest_9 : decode b_ro_findQuickest 9 = .ok (.iload 6, 2) := by decide +kernel
theorem d_ro_findQuickest_11 : decode b_ro_findQuickest 11 = .ok (.aload_n 0, 1) := by decide +kernel
theorem d_ro_findQuickest_12 : decode b_ro_findQuickest 12 = .ok (.getfield 37, 3) := by decide +kernel
theorem d_ro_findQuickest_15 : decode b_ro_findQuickest 15 = .ok (.if_icmp .ge 76, 3) := by decide +kernel
theorem d_ro_findQuickest_18 : decode b_ro_findQuickest 18 = .ok (.aload_n 0, 1) := by decide +kernel
theorem d_ro_findQuickest_19 : decode b_ro_findQuickest 19 = .ok (.iload 6, 2) := by decide +kernel
theorem d_ro_findQuickest_21 : decode b_ro_findQuickest 21 = .ok (.iload_n 1, 1) := by decide +kernel
theorem d_ro_findQuickest_22 : decode b_ro_findQuickest 22 = .ok (.iload_n 2, 1) := by decide +kernel
theorem d_ro_findQuickest_23 : decode b_ro_findQuickest 23 = .ok (.invokevirtual 50, 3) := by decide +kernel
theorem d_ro_findQuickest_26 : decode b_ro_findQuickest 26 = .ok (.ifCond .eq 13, 3) := by decide +kernel
theorem d_ro_findQuickest_29 : decode b_ro_findQuickest 29 = .ok (.aload_n 0, 1) := by decide +kernel
theorem d_ro_findQuickest_30 : decode b_ro_findQuickest 30 = .ok (.iload 6, 2) := by decide +kernel
theorem d_ro_findQuickest_32 : decode b_ro_findQuickest 32 = .ok (.iload_n 3, 1) := by decide +kernel
theorem d_ro_findQuickest_33 : decode b_ro_findQuickest 33 = .ok (.invokevirtual 54, 3) := by decide +kernel
theorem d_ro_findQuickest_36 : decode b_ro_findQuickest 36 = .ok (.goto 4, 3) := by decide +kernel
theorem d_ro_findQuickest_39 : decode b_ro_findQuickest 39 = .ok (.iconst (-1), 1) := by decide +kernel
theorem d_ro_findQuickest_40 : decode b_ro_findQuickest 40 = .ok (.istore 7, 2) := by decide +kernel
theorem d_ro_findQuickest_42 : decode b_ro_findQuickest 42 = .ok (.iload 7, 2) := by decide +kernel
theorem d_ro_findQuickest_44 : decode b_ro_findQuickest 44 = .ok (.iconst (-1), 1) := by decide +kernel
theorem d_ro_findQuickest_45 : decode b_ro_findQuickest 45 = .ok (.if_icmp .eq 40, 3) := by decide +kernel
theorem d_ro_findQuickest_48 : decode b_ro_findQuickest 48 = .ok (.iload 4, 2) := by decide +kernel
theorem d_ro_findQuickest_50 : decode b_ro_findQuickest 50 = .ok (.iconst (-1), 1) := by decide +kernel
theorem d_ro_findQuickest_51 : decode b_ro_findQuickest 51 = .ok (.if_icmp .eq 18, 3) := by decide +kernel
theorem d_ro_findQuickest_54 : decode b_ro_findQuickest 54 = .ok (.iload 7, 2) := by decide +kernel
theorem d_ro_findQuickest_56 : decode b_ro_findQuickest 56 = .ok (.aload_n 0, 1) := by decide +kernel
theorem d_ro_findQuickest_57 : decode b_ro_findQuickest 57 = .ok (.getfield 21, 3) := by decide +kernel
theorem d_ro_findQuickest_60 : decode b_ro_findQuickest 60 = .ok (.iload 6, 2) := by decide +kernel
theorem d_ro_findQuickest_62 : decode b_ro_findQuickest 62 = .ok (.iaload, 1) := by decide +kernel
theorem d_ro_findQuickest_63 : decode b_ro_findQuickest 63 = .ok (.iadd, 1) := by decide +kernel
theorem d_ro_findQuickest_64 : decode b_ro_findQuickest 64 = .ok (.iload 5, 2) := by decide +kernel
theorem d_ro_findQuickest_66 : decode b_ro_findQuickest 66 = .ok (.if_icmp .ge 19, 3) := by decide +kernel
theorem d_ro_findQuickest_69 : decode b_ro_findQuickest 69 = .ok (.iload 6, 2) := by decide +kernel
theorem d_ro_findQuickest_71 : decode b_ro_findQuickest 71 = .ok (.istore 4, 2) := by decide +kernel
theorem d_ro_findQuickest_73 : decode b_ro_findQuickest 73 = .ok (.iload 7, 2) := by decide +kernel
theorem d_ro_findQuickest_75 : decode b_ro_findQuickest 75 = .ok (.aload_n 0, 1) := by decide +kernel
theorem d_ro_findQuickest_76 : decode b_ro_findQuickest 76 = .ok (.getfield 21, 3) := by decide +kernel
theorem d_ro_findQuickest_79 : decode b_ro_findQuickest 79 = .ok (.iload 6, 2) := by decide +kernel
theorem d_ro_findQuickest_81 : decode b_ro_findQuickest 81 = .ok (.iaload, 1) := by decide +kernel
theorem d_ro_findQuickest_82 : decode b_ro_findQuickest 82 = .ok (.iadd, 1) := by decide +kernel
theorem d_ro_findQuickest_83 : decode b_ro_findQuickest 83 = .ok (.istore 5, 2) := by decide +kernel
theorem d_ro_findQuickest_85 : decode b_ro_findQuickest 85 = .ok (.iinc 6 1, 3) := by decide +kernel
theorem d_ro_findQuickest_88 : decode b_ro_findQuickest 88 = .ok (.goto (-79), 3) := by decide +kernel
theorem d_ro_findQuickest_91 : decode b_ro_findQuickest 91 = .ok (.iload 4, 2) := by decide +kernel
theorem d_ro_findQuickest_93 : decode b_ro_findQuickest 93 = .ok (.ireturn, 1) := by decide +kernel
theorem d_ro_joins_0 : decode b_ro_joins 0 = .ok (.aload_n 0, 1) := by decide +kernel
theorem d_ro_joins_1 : decode b_ro_joins 1 = .ok (.getfield 9, 3) := by decide +kernel
theorem d_ro_joins_4 : decode b_ro_joins 4 = .ok (.iload_n 1, 1) := by decide +kernel
theorem d_ro_joins_5 : decode b_ro_joins 5 = .ok (.iaload, 1) := by decide +kernel
theorem d_ro_joins_6 : decode b_ro_joins 6 = .ok (.iload_n 2, 1) := by decide +kernel
theorem d_ro_joins_7 : decode b_ro_joins 7 = .ok (.if_icmp .ne 17, 3) := by decide +kernel
theorem d_ro_joins_10 : decode b_ro_joins 10 = .ok (.aload_n 0, 1) := by decide +kernel
theorem d_ro_joins_11 : decode b_ro_joins 11 = .ok (.getfield 15, 3) := by decide +kernel
theorem d_ro_joins_14 : decode b_ro_joins 14 = .ok (.iload_n 1, 1) := by decide +kernel
theorem d_ro_joins_15 : decode b_ro_joins 15 = .ok (.iaload, 1) := by decide +kernel
theorem d_ro_joins_16 : decode b_ro_joins 16 = .ok (.iload_n 3, 1) := by decide +kernel
theorem d_ro_joins_17 : decode b_ro_joins 17 = .ok (.if_icmp .ne 7, 3) := by decide +kernel
theorem d_ro_joins_20 : decode b_ro_joins 20 = .ok (.iconst 1, 1) := by decide +kernel
theorem d_ro_joins_21 : decode b_ro_joins 21 = .ok (.goto 4, 3) := by decide +kernel
theorem d_ro_joins_24 : decode b_ro_joins 24 = .ok (.iconst 0, 1) := by decide +kernel
theorem d_ro_joins_25 : decode b_ro_joins 25 = .ok (.ireturn, 1) := by decide +kernel
theorem d_ro_firstRun_0 : decode b_ro_firstRun 0 = .ok (.iload_n 2, 1) := by decide +kernel
theorem d_ro_firstRun_1 : decode b_ro_firstRun 1 = .ok (.istore_n 3, 1) := by decide +kernel
theorem d_ro_firstRun_2 : decode b_ro_firstRun 2 = .ok (.iload_n 3, 1) := by decide +kernel
theorem d_ro_firstRun_3 : decode b_ro_firstRun 3 = .ok (.ldc 45, 2) := by decide +kernel
theorem d_ro_firstRun_5 : decode b_ro_firstRun 5 = .ok (.if_icmp .gt 20, 3) := by decide +kernel
theorem d_ro_firstRun_8 : decode b_ro_firstRun 8 = .ok (.aload_n 0, 1) := by decide +kernel
theorem d_ro_firstRun_9 : decode b_ro_firstRun 9 = .ok (.iload_n 1, 1) := by decide +kernel
theorem d_ro_firstRun_10 : decode b_ro_firstRun 10 = .ok (.iload_n 3, 1) := by decide +kernel
theorem d_ro_firstRun_11 : decode b_ro_firstRun 11 = .ok (.invokevirtual 46, 3) := by decide +kernel
theorem d_ro_firstRun_14 : decode b_ro_firstRun 14 = .ok (.ifCond .eq 5, 3) := by decide +kernel
theorem d_ro_firstRun_17 : decode b_ro_firstRun 17 = .ok (.iload_n 3, 1) := by decide +kernel
theorem d_ro_firstRun_18 : decode b_ro_firstRun 18 = .ok (.ireturn, 1) := by decide +kernel
theorem d_ro_firstRun_19 : decode b_ro_firstRun 19 = .ok (.iinc 3 1, 3) := by decide +kernel
theorem d_ro_firstRun_22 : decode b_ro_firstRun 22 = .ok (.goto (-20), 3) := by decide +kernel
theorem d_ro_firstRun_25 : decode b_ro_firstRun 25 = .ok (.iconst (-1), 1) := by decide +kernel
theorem d_ro_firstRun_26 : decode b_ro_firstRun 26 = .ok (.ireturn, 1) := by decide +kernel
theorem d_ro_runsOn_0 : decode b_ro_runsOn 0 = .ok (.aload_n 0, 1) := by decide +kernel
theorem d_ro_runsOn_1 : decode b_ro_runsOn 1 = .ok (.getfield 18, 3) := by decide +kernel
theorem d_ro_runsOn_4 : decode b_ro_runsOn 4 = .ok (.iload_n 1, 1) := by decide +kernel
theorem d_ro_runsOn_5 : decode b_ro_runsOn 5 = .ok (.iaload, 1) := by decide +kernel
theorem d_ro_runsOn_6 : decode b_ro_runsOn 6 = .ok (.iload_n 2, 1) := by decide +kernel
theorem d_ro_runsOn_7 : decode b_ro_runsOn 7 = .ok (.bipush 7, 2) := by decide +kernel
theorem d_ro_runsOn_9 : decode b_ro_runsOn 9 = .ok (.irem, 1) := by decide +kernel
theorem d_ro_runsOn_10 : decode b_ro_runsOn 10 = .ok (.ishr, 1) := by decide +kernel
theorem d_ro_runsOn_11 : decode b_ro_runsOn 11 = .ok (.iconst 1, 1) := by decide +kernel
theorem d_ro_runsOn_12 : decode b_ro_runsOn 12 = .ok (.iand, 1) := by decide +kernel
theorem d_ro_runsOn_13 : decode b_ro_runsOn 13 = .ok (.iconst 1, 1) := by decide +kernel
theorem d_ro_runsOn_14 : decode b_ro_runsOn 14 = .ok (.if_icmp .ne 7, 3) := by decide +kernel
theorem d_ro_runsOn_17 : decode b_ro_runsOn 17 = .ok (.iconst 1, 1) := by decide +kernel
theorem d_ro_runsOn_18 : decode b_ro_runsOn 18 = .ok (.goto 4, 3) := by decide +kernel
theorem d_ro_runsOn_21 : decode b_ro_runsOn 21 = .ok (.iconst 0, 1) := by decide +kernel
theorem d_ro_runsOn_22 : decode b_ro_runsOn 22 = .ok (.istore_n 3, 1) := by decide +kernel
theorem d_ro_runsOn_23 : decode b_ro_runsOn 23 = .ok (.iload_n 3, 1) := by decide +kernel
theorem d_ro_runsOn_24 : decode b_ro_runsOn 24 = .ok (.ifCond .eq 20, 3) := by decide +kernel
theorem d_ro_runsOn_27 : decode b_ro_runsOn 27 = .ok (.aload_n 0, 1) := by decide +kernel
theorem d_ro_runsOn_28 : decode b_ro_runsOn 28 = .ok (.getfield 33, 3) := by decide +kernel
theorem d_ro_runsOn_31 : decode b_ro_runsOn 31 = .ok (.iload_n 1, 1) := by decide +kernel
theorem d_ro_runsOn_32 : decode b_ro_runsOn 32 = .ok (.iload_n 2, 1) := by decide +kernel
theorem d_ro_runsOn_33 : decode b_ro_runsOn 33 = .ok (.invokevirtual 41, 3) := by decide +kernel
theorem d_ro_runsOn_36 : decode b_ro_runsOn 36 = .ok (.iconst (-1), 1) := by decide +kernel
theorem d_ro_runsOn_37 : decode b_ro_runsOn 37 = .ok (.if_icmp .ne 7, 3) := by decide +kernel
theorem d_ro_runsOn_40 : decode b_ro_runsOn 40 = .ok (.iconst 1, 1) := by decide +kernel
theorem d_ro_runsOn_41 : decode b_ro_runsOn 41 = .ok (.goto 4, 3) := by decide +kernel
theorem d_ro_runsOn_44 : decode b_ro_runsOn 44 = .ok (.iconst 0, 1) := by decide +kernel
theorem d_ro_runsOn_45 : decode b_ro_runsOn 45 = .ok (.ireturn, 1) := by decide +kernel
theorem d_sl_add_0 : decode b_sl_add 0 = .ok (.aload_n 0, 1) := by decide +kernel
theorem d_sl_add_1 : decode b_sl_add 1 = .ok (.dup, 1) := by decide +kernel
theorem d_sl_add_2 : decode b_sl_add 2 = .ok (.getfield 30, 3) := by decide +kernel
theorem d_sl_add_5 : decode b_sl_add 5 = .ok (.iconst 1, 1) := by decide +kernel
theorem d_sl_add_6 : decode b_sl_add 6 = .ok (.iadd, 1) := by decide +kernel
theorem d_sl_add_7 : decode b_sl_add 7 = .ok (.putfield 30, 3) := by decide +kernel
theorem d_sl_add_10 : decode b_sl_add 10 = .ok (.aload_n 0, 1) := by decide +kernel
theorem d_sl_add_11 : decode b_sl_add 11 = .ok (.getfield 9, 3) := by decide +kernel
theorem d_sl_add_14 : decode b_sl_add 14 = .ok (.aload_n 0, 1) := by decide +kernel
theorem d_sl_add_15 : decode b_sl_add 15 = .ok (.getfield 30, 3) := by decide +kernel
theorem d_sl_add_18 : decode b_sl_add 18 = .ok (.iload_n 1, 1) := by decide +kernel
theorem d_sl_add_19 : decode b_sl_add 19 = .ok (.iastore, 1) := by decide +kernel
theorem d_sl_add_20 : decode b_sl_add 20 = .ok (.aload_n 0, 1) := by decide +kernel
theorem d_sl_add_21 : decode b_sl_add 21 = .ok (.getfield 15, 3) := by decide +kernel
theorem d_sl_add_24 : decode b_sl_add 24 = .ok (.aload_n 0, 1) := by decide +kernel
theorem d_sl_add_25 : decode b_sl_add 25 = .ok (.getfield 30, 3) := by decide +kernel
theorem d_sl_add_28 : decode b_sl_add 28 = .ok (.iload_n 2, 1) := by decide +kernel
theorem d_sl_add_29 : decode b_sl_add 29 = .ok (.iastore, 1) := by decide +kernel
theorem d_sl_add_30 : decode b_sl_add 30 = .ok (.aload_n 0, 1) := by decide +kernel
theorem d_sl_add_31 : decode b_sl_add 31 = .ok (.getfield 18, 3) := by decide +kernel
theorem d_sl_add_34 : decode b_sl_add 34 = .ok (.aload_n 0, 1) := by decide +kernel
theorem d_sl_add_35 : decode b_sl_add 35 = .ok (.getfield 30, 3) := by decide +kernel
theorem d_sl_add_38 : decode b_sl_add 38 = .ok (.iconst 0, 1) := by decide +kernel
theorem d_sl_add_39 : decode b_sl_add 39 = .ok (.iastore, 1) := by decide +kernel
theorem d_sl_add_40 : decode b_sl_add 40 = .ok (.aload_n 0, 1) := by decide +kernel
theorem d_sl_add_41 : decode b_sl_add 41 = .ok (.getfield 21, 3) := by decide +kernel
theorem d_sl_add_44 : decode b_sl_add 44 = .ok (.aload_n 0, 1) := by decide +kernel
theorem d_sl_add_45 : decode b_sl_add 45 = .ok (.getfield 30, 3) := by decide +kernel
theorem d_sl_add_48 : decode b_sl_add 48 = .ok (.iload_n 3, 1) := by decide +kernel
theorem d_sl_add_49 : decode b_sl_add 49 = .ok (.iastore, 1) := by decide +kernel
theorem d_sl_add_50 : decode b_sl_add 50 = .ok (.aload_n 0, 1) := by decide +kernel
theorem d_sl_add_51 : decode b_sl_add 51 = .ok (.getfield 24, 3) := by decide +kernel
theorem d_sl_add_54 : decode b_sl_add 54 = .ok (.aload_n 0, 1) := by decide +kernel
theorem d_sl_add_55 : decode b_sl_add 55 = .ok (.getfield 30, 3) := by decide +kernel
theorem d_sl_add_58 : decode b_sl_add 58 = .ok (.iload 4, 2) := by decide +kernel
theorem d_sl_add_60 : decode b_sl_add 60 = .ok (.iastore, 1) := by decide +kernel
theorem d_sl_add_61 : decode b_sl_add 61 = .ok (.aload_n 0, 1) := by decide +kernel
theorem d_sl_add_62 : decode b_sl_add 62 = .ok (.getfield 27, 3) := by decide +kernel
theorem d_sl_add_65 : decode b_sl_add 65 = .ok (.aload_n 0, 1) := by decide +kernel
theorem d_sl_add_66 : decode b_sl_add 66 = .ok (.getfield 30, 3) := by decide +kernel
theorem d_sl_add_69 : decode b_sl_add 69 = .ok (.iconst (-1), 1) := by decide +kernel
theorem d_sl_add_70 : decode b_sl_add 70 = .ok (.iastore, 1) := by decide +kernel
theorem d_sl_add_71 : decode b_sl_add 71 = .ok (.aload_n 0, 1) := by decide +kernel
theorem d_sl_add_72 : decode b_sl_add 72 = .ok (.getfield 30, 3) := by decide +kernel
theorem d_sl_add_75 : decode b_sl_add 75 = .ok (.ireturn, 1) := by decide +kernel
theorem d_sl_has_0 : decode b_sl_has 0 = .ok (.iload_n 1, 1) := by decide +kernel
theorem d_sl_has_1 : decode b_sl_has 1 = .ok (.iconst 1, 1) := by decide +kernel
theorem d_sl_has_2 : decode b_sl_has 2 = .ok (.if_icmp .lt 15, 3) := by decide +kernel
theorem d_sl_has_5 : decode b_sl_has 5 = .ok (.iload_n 1, 1) := by decide +kernel
theorem d_sl_has_6 : decode b_sl_has 6 = .ok (.aload_n 0, 1) := by decide +kernel
theorem d_sl_has_7 : decode b_sl_has 7 = .ok (.getfield 30, 3) := by decide +kernel
theorem d_sl_has_10 : decode b_sl_has 10 = .ok (.if_icmp .gt 7, 3) := by decide +kernel
theorem d_sl_has_13 : decode b_sl_has 13 = .ok (.iconst 1, 1) := by decide +kernel
theorem d_sl_has_14 : decode b_sl_has 14 = .ok (.goto 4, 3) := by decide +kernel
theorem d_sl_has_17 : decode b_sl_has 17 = .ok (.iconst 0, 1) := by decide +kernel
theorem d_sl_has_18 : decode b_sl_has 18 = .ok (.ireturn, 1) := by decide +kernel
theorem d_ld_begin_0 : decode b_ld_begin 0 = .ok (.aload_n 0, 1) := by decide +kernel
theorem d_ld_begin_1 : decode b_ld_begin 1 = .ok (.dup, 1) := by decide +kernel
theorem d_ld_begin_2 : decode b_ld_begin 2 = .ok (.getfield 18, 3) := by decide +kernel
theorem d_ld_begin_5 : decode b_ld_begin 5 = .ok (.iconst 1, 1) := by decide +kernel
theorem d_ld_begin_6 : decode b_ld_begin 6 = .ok (.iadd, 1) := by decide +kernel
theorem d_ld_begin_7 : decode b_ld_begin 7 = .ok (.putfield 18, 3) := by decide +kernel
theorem d_ld_begin_10 : decode b_ld_begin 10 = .ok (.aload_n 0, 1) := by decide +kernel
theorem d_ld_begin_11 : decode b_ld_begin 11 = .ok (.getfield 9, 3) := by decide +kernel
theorem d_ld_begin_14 : decode b_ld_begin 14 = .ok (.aload_n 0, 1) := by decide +kernel
theorem d_ld_begin_15 : decode b_ld_begin 15 = .ok (.getfield 18, 3) := by decide +kernel
theorem d_ld_begin_18 : decode b_ld_begin 18 = .ok (.aload_n 0, 1) := by decide +kernel
theorem d_ld_begin_19 : decode b_ld_begin 19 = .ok (.getfield 9, 3) := by decide +kernel
theorem d_ld_begin_22 : decode b_ld_begin 22 = .ok (.aload_n 0, 1) := by decide +kernel
theorem d_ld_begin_23 : decode b_ld_begin 23 = .ok (.getfield 18, 3) := by decide +kernel
theorem d_ld_begin_26 : decode b_ld_begin 26 = .ok (.iconst 1, 1) := by decide +kernel
theorem d_ld_begin_27 : decode b_ld_begin 27 = .ok (.isub, 1) := by decide +kernel
theorem d_ld_begin_28 : decode b_ld_begin 28 = .ok (.iaload, 1) := by decide +kernel
theorem d_ld_begin_29 : decode b_ld_begin 29 = .ok (.iastore, 1) := by decide +kernel
theorem d_ld_begin_30 : decode b_ld_begin 30 = .ok (.aload_n 0, 1) := by decide +kernel
theorem d_ld_begin_31 : decode b_ld_begin 31 = .ok (.getfield 18, 3) := by decide +kernel
theorem d_ld_begin_34 : decode b_ld_begin 34 = .ok (.ireturn, 1) := by decide +kernel
theorem d_ld_put_0 : decode b_ld_put 0 = .ok (.aload_n 0, 1) := by decide +kernel
theorem d_ld_put_1 : decode b_ld_put 1 = .ok (.getfield 15, 3) := by decide +kernel
theorem d_ld_put_4 : decode b_ld_put 4 = .ok (.aload_n 0, 1) := by decide +kernel
theorem d_ld_put_5 : decode b_ld_put 5 = .ok (.getfield 9, 3) := by decide +kernel
theorem d_ld_put_8 : decode b_ld_put 8 = .ok (.aload_n 0, 1) := by decide +kernel
theorem d_ld_put_9 : decode b_ld_put 9 = .ok (.getfield 18, 3) := by decide +kernel
theorem d_ld_put_12 : decode b_ld_put 12 = .ok (.iaload, 1) := by decide +kernel
theorem d_ld_put_13 : decode b_ld_put 13 = .ok (.iload_n 1, 1) := by decide +kernel
theorem d_ld_put_14 : decode b_ld_put 14 = .ok (.iastore, 1) := by decide +kernel
theorem d_ld_put_15 : decode b_ld_put 15 = .ok (.aload_n 0, 1) := by decide +kernel
theorem d_ld_put_16 : decode b_ld_put 16 = .ok (.getfield 9, 3) := by decide +kernel
theorem d_ld_put_19 : decode b_ld_put 19 = .ok (.aload_n 0, 1) := by decide +kernel
theorem d_ld_put_20 : decode b_ld_put 20 = .ok (.getfield 18, 3) := by decide +kernel
theorem d_ld_put_23 : decode b_ld_put 23 = .ok (.dup2, 1) := by decide +kernel
theorem d_ld_put_24 : decode b_ld_put 24 = .ok (.iaload, 1) := by decide +kernel
theorem d_ld_put_25 : decode b_ld_put 25 = .ok (.iconst 1, 1) := by decide +kernel
theorem d_ld_put_26 : decode b_ld_put 26 = .ok (.iadd, 1) := by decide +kernel
theorem d_ld_put_27 : decode b_ld_put 27 = .ok (.iastore, 1) := by decide +kernel
theorem d_ld_put_28 : decode b_ld_put 28 = .ok (.return_, 1) := by decide +kernel
theorem d_te_add_0 : decode b_te_add 0 = .ok (.aload_n 0, 1) := by decide +kernel
theorem d_te_add_1 : decode b_te_add 1 = .ok (.getfield 18, 3) := by decide +kernel
theorem d_te_add_4 : decode b_te_add 4 = .ok (.bipush 100, 2) := by decide +kernel
theorem d_te_add_6 : decode b_te_add 6 = .ok (.if_icmp .ge 33, 3) := by decide +kernel
theorem d_te_add_9 : decode b_te_add 9 = .ok (.aload_n 0, 1) := by decide +kernel
theorem d_te_add_10 : decode b_te_add 10 = .ok (.getfield 9, 3) := by decide +kernel
theorem d_te_add_13 : decode b_te_add 13 = .ok (.aload_n 0, 1) := by decide +kernel
theorem d_te_add_14 : decode b_te_add 14 = .ok (.getfield 18, 3) := by decide +kernel
theorem d_te_add_17 : decode b_te_add 17 = .ok (.iload_n 1, 1) := by decide +kernel
theorem d_te_add_18 : decode b_te_add 18 = .ok (.iastore, 1) := by decide +kernel
theorem d_te_add_19 : decode b_te_add 19 = .ok (.aload_n 0, 1) := by decide +kernel
theorem d_te_add_20 : decode b_te_add 20 = .ok (.getfield 15, 3) := by decide +kernel
theorem d_te_add_23 : decode b_te_add 23 = .ok (.aload_n 0, 1) := by decide +kernel
theorem d_te_add_24 : decode b_te_add 24 = .ok (.getfield 18, 3) := by decide +kernel
theorem d_te_add_27 : decode b_te_add 27 = .ok (.iload_n 2, 1) := by decide +kernel
theorem d_te_add_28 : decode b_te_add 28 = .ok (.iastore, 1) := by decide +kernel
theorem d_te_add_29 : decode b_te_add 29 = .ok (.aload_n 0, 1) := by decide +kernel
theorem d_te_add_30 : decode b_te_add 30 = .ok (.dup, 1) := by decide +kernel
theorem d_te_add_31 : decode b_te_add 31 = .ok (.getfield 18, 3) := by decide +kernel
theorem d_te_add_34 : decode b_te_add 34 = .ok (.iconst 1, 1) := by decide +kernel
theorem d_te_add_35 : decode b_te_add 35 = .ok (.iadd, 1) := by decide +kernel
theorem d_te_add_36 : decode b_te_add 36 = .ok (.putfield 18, 3) := by decide +kernel
theorem d_te_add_39 : decode b_te_add 39 = .ok (.return_, 1) := by decide +kernel
theorem d_ld_has_0 : decode b_ld_has 0 = .ok (.iload_n 1, 1) := by decide +kernel
theorem d_ld_has_1 : decode b_ld_has 1 = .ok (.iconst 1, 1) := by decide +kernel
theorem d_ld_has_2 : decode b_ld_has 2 = .ok (.if_icmp .lt 15, 3) := by decide +kernel
theorem d_ld_has_5 : decode b_ld_has 5 = .ok (.iload_n 1, 1) := by decide +kernel
theorem d_ld_has_6 : decode b_ld_has 6 = .ok (.aload_n 0, 1) := by decide +kernel
theorem d_ld_has_7 : decode b_ld_has 7 = .ok (.getfield 18, 3) := by decide +kernel
theorem d_ld_has_10 : decode b_ld_has 10 = .ok (.if_icmp .gt 7, 3) := by decide +kernel
theorem d_ld_has_13 : decode b_ld_has 13 = .ok (.iconst 1, 1) := by decide +kernel
theorem d_ld_has_14 : decode b_ld_has 14 = .ok (.goto 4, 3) := by decide +kernel
theorem d_ld_has_17 : decode b_ld_has 17 = .ok (.iconst 0, 1) := by decide +kernel
theorem d_ld_has_18 : decode b_ld_has 18 = .ok (.ireturn, 1) := by decide +kernel
theorem d_ld_size_0 : decode b_ld_size 0 = .ok (.aload_n 0, 1) := by decide +kernel
theorem d_ld_size_1 : decode b_ld_size 1 = .ok (.getfield 9, 3) := by decide +kernel
theorem d_ld_size_4 : decode b_ld_size 4 = .ok (.iload_n 1, 1) := by decide +kernel
theorem d_ld_size_5 : decode b_ld_size 5 = .ok (.iaload, 1) := by decide +kernel
theorem d_ld_size_6 : decode b_ld_size 6 = .ok (.aload_n 0, 1) := by decide +kernel
theorem d_ld_size_7 : decode b_ld_size 7 = .ok (.getfield 9, 3) := by decide +kernel
theorem d_ld_size_10 : decode b_ld_size 10 = .ok (.iload_n 1, 1) := by decide +kernel
theorem d_ld_size_11 : decode b_ld_size 11 = .ok (.iconst 1, 1) := by decide +kernel
theorem d_ld_size_12 : decode b_ld_size 12 = .ok (.isub, 1) := by decide +kernel
theorem d_ld_size_13 : decode b_ld_size 13 = .ok (.iaload, 1) := by decide +kernel
theorem d_ld_size_14 : decode b_ld_size 14 = .ok (.isub, 1) := by decide +kernel
theorem d_ld_size_15 : decode b_ld_size 15 = .ok (.ireturn, 1) := by decide +kernel
theorem d_ld_slipAt_0 : decode b_ld_slipAt 0 = .ok (.aload_n 0, 1) := by decide +kernel
theorem d_ld_slipAt_1 : decode b_ld_slipAt 1 = .ok (.getfield 15, 3) := by decide +kernel
theorem d_ld_slipAt_4 : decode b_ld_slipAt 4 = .ok (.aload_n 0, 1) := by decide +kernel
theorem d_ld_slipAt_5 : decode b_ld_slipAt 5 = .ok (.getfield 9, 3) := by decide +kernel
theorem d_ld_slipAt_8 : decode b_ld_slipAt 8 = .ok (.iload_n 1, 1) := by decide +kernel
theorem d_ld_slipAt_9 : decode b_ld_slipAt 9 = .ok (.iconst 1, 1) := by decide +kernel
theorem d_ld_slipAt_10 : decode b_ld_slipAt 10 = .ok (.isub, 1) := by decide +kernel
theorem d_ld_slipAt_11 : decode b_ld_slipAt 11 = .ok (.iaload, 1) := by decide +kernel
theorem d_ld_slipAt_12 : decode b_ld_slipAt 12 = .ok (.iload_n 2, 1) := by decide +kernel
theorem d_ld_slipAt_13 : decode b_ld_slipAt 13 = .ok (.iadd, 1) := by decide +kernel
theorem d_ld_slipAt_14 : decode b_ld_slipAt 14 = .ok (.iaload, 1) := by decide +kernel
theorem d_ld_slipAt_15 : decode b_ld_slipAt 15 = .ok (.ireturn, 1) := by decide +kernel
theorem d_sl_isUnderWay_0 : decode b_sl_isUnderWay 0 = .ok (.aload_n 0, 1) := by decide +kernel
theorem d_sl_isUnderWay_1 : decode b_sl_isUnderWay 1 = .ok (.getfield 18, 3) := by decide +kernel
theorem d_sl_isUnderWay_4 : decode b_sl_isUnderWay 4 = .ok (.iload_n 1, 1) := by decide +kernel
theorem d_sl_isUnderWay_5 : decode b_sl_isUnderWay 5 = .ok (.iaload, 1) := by decide +kernel
theorem d_sl_isUnderWay_6 : decode b_sl_isUnderWay 6 = .ok (.iconst 1, 1) := by decide +kernel
theorem d_sl_isUnderWay_7 : decode b_sl_isUnderWay 7 = .ok (.if_icmp .eq 13, 3) := by decide +kernel
theorem d_sl_isUnderWay_10 : decode b_sl_isUnderWay 10 = .ok (.aload_n 0, 1) := by decide +kernel
theorem d_sl_isUnderWay_11 : decode b_sl_isUnderWay 11 = .ok (.getfield 18, 3) := by decide +kernel
theorem d_sl_isUnderWay_14 : decode b_sl_isUnderWay 14 = .ok (.iload_n 1, 1) := by decide +kernel
theorem d_sl_isUnderWay_15 : decode b_sl_isUnderWay 15 = .ok (.iaload, 1) := by decide +kernel
theorem d_sl_isUnderWay_16 : decode b_sl_isUnderWay 16 = .ok (.iconst 3, 1) := by decide +kernel
theorem d_sl_isUnderWay_17 : decode b_sl_isUnderWay 17 = .ok (.if_icmp .ne 7, 3) := by decide +kernel
theorem d_sl_isUnderWay_20 : decode b_sl_isUnderWay 20 = .ok (.iconst 1, 1) := by decide +kernel
theorem d_sl_isUnderWay_21 : decode b_sl_isUnderWay 21 = .ok (.goto 4, 3) := by decide +kernel
theorem d_sl_isUnderWay_24 : decode b_sl_isUnderWay 24 = .ok (.iconst 0, 1) := by decide +kernel
theorem d_sl_isUnderWay_25 : decode b_sl_isUnderWay 25 = .ok (.ireturn, 1) := by decide +kernel
theorem d_te_has_0 : decode b_te_has 0 = .ok (.iload_n 1, 1) := by decide +kernel
theorem d_te_has_1 : decode b_te_has 1 = .ok (.ifCond .lt 15, 3) := by decide +kernel
theorem d_te_has_4 : decode b_te_has 4 = .ok (.iload_n 1, 1) := by decide +kernel
theorem d_te_has_5 : decode b_te_has 5 = .ok (.aload_n 0, 1) := by decide +kernel
theorem d_te_has_6 : decode b_te_has 6 = .ok (.getfield 18, 3) := by decide +kernel
theorem d_te_has_9 : decode b_te_has 9 = .ok (.if_icmp .ge 7, 3) := by decide +kernel
theorem d_te_has_12 : decode b_te_has 12 = .ok (.iconst 1, 1) := by decide +kernel
theorem d_te_has_13 : decode b_te_has 13 = .ok (.goto 4, 3) := by decide +kernel
theorem d_te_has_16 : decode b_te_has 16 = .ok (.iconst 0, 1) := by decide +kernel
theorem d_te_has_17 : decode b_te_has 17 = .ok (.ireturn, 1) := by decide +kernel
end
section
theorem d_tr_init_0 : decode b_tr_init 0 = .ok (.aload_n 0, 1) := by decide +kernel
theorem d_tr_init_1 : decode b_tr_init 1 = .ok (.invokespecial 1, 3) := by decide +kernel
theorem d_tr_init_4 : decode b_tr_init 4 = .ok (.aload_n 0, 1) := by decide +kernel
theorem d_tr_init_5 : decode b_tr_init 5 = .ok (.new 7, 3) := by decide +kernel
theorem d_tr_init_8 : decode b_tr_init 8 = .ok (.dup, 1) := by decide +kernel
theorem d_tr_init_9 : decode b_tr_init 9 = .ok (.invokespecial 9, 3) := by decide +kernel
theorem d_tr_init_12 : decode b_tr_init 12 = .ok (.putfield 10, 3) := by decide +kernel
theorem d_tr_init_15 : decode b_tr_init 15 = .ok (.aload_n 0, 1) := by decide +kernel
theorem d_tr_init_16 : decode b_tr_init 16 = .ok (.new 16, 3) := by decide +kernel
theorem d_tr_init_19 : decode b_tr_init 19 = .ok (.dup, 1) := by decide +kernel
theorem d_tr_init_20 : decode b_tr_init 20 = .ok (.invokespecial 18, 3) := by decide +kernel
theorem d_tr_init_23 : decode b_tr_init 23 = .ok (.putfield 19, 3) := by decide +kernel
theorem d_tr_init_26 : decode b_tr_init 26 = .ok (.aload_n 0, 1) := by decide +kernel
theorem d_tr_init_27 : decode b_tr_init 27 = .ok (.new 23, 3) := by decide +kernel
theorem d_tr_init_30 : decode b_tr_init 30 = .ok (.dup, 1) := by decide +kernel
theorem d_tr_init_31 : decode b_tr_init 31 = .ok (.invokespecial 25, 3) := by decide +kernel
theorem d_tr_init_34 : decode b_tr_init 34 = .ok (.putfield 26, 3) := by decide +kernel
theorem d_tr_init_37 : decode b_tr_init 37 = .ok (.aload_n 0, 1) := by decide +kernel
theorem d_tr_init_38 : decode b_tr_init 38 = .ok (.new 30, 3) := by decide +kernel
theorem d_tr_init_41 : decode b_tr_init 41 = .ok (.dup, 1) := by decide +kernel
theorem d_tr_init_42 : decode b_tr_init 42 = .ok (.invokespecial 32, 3) := by decide +kernel
theorem d_tr_init_45 : decode b_tr_init 45 = .ok (.putfield 33, 3) := by decide +kernel
theorem d_tr_init_48 : decode b_tr_init 48 = .ok (.aload_n 0, 1) := by decide +kernel
theorem d_tr_init_49 : decode b_tr_init 49 = .ok (.new 37, 3) := by decide +kernel
theorem d_tr_init_52 : decode b_tr_init 52 = .ok (.dup, 1) := by decide +kernel
theorem d_tr_init_53 : decode b_tr_init 53 = .ok (.invokespecial 39, 3) := by decide +kernel
theorem d_tr_init_56 : decode b_tr_init 56 = .ok (.putfield 40, 3) := by decide +kernel
theorem d_tr_init_59 : decode b_tr_init 59 = .ok (.aload_n 0, 1) := by decide +kernel
theorem d_tr_init_60 : decode b_tr_init 60 = .ok (.new 44, 3) := by decide +kernel
theorem d_tr_init_63 : decode b_tr_init 63 = .ok (.dup, 1) := by decide +kernel
theorem d_tr_init_64 : decode b_tr_init 64 = .ok (.invokespecial 46, 3) := by decide +kernel
theorem d_tr_init_67 : decode b_tr_init 67 = .ok (.putfield 47, 3) := by decide +kernel
theorem d_tr_init_70 : decode b_tr_init 70 = .ok (.aload_n 0, 1) := by decide +kernel
theorem d_tr_init_71 : decode b_tr_init 71 = .ok (.sipush 150, 3) := by decide +kernel
theorem d_tr_init_74 : decode b_tr_init 74 = .ok (.newarray .int, 2) := by decide +kernel
theorem d_tr_init_76 : decode b_tr_init 76 = .ok (.putfield 51, 3) := by decide +kernel
theorem d_tr_init_79 : decode b_tr_init 79 = .ok (.aload_n 0, 1) := by decide +kernel
theorem d_tr_init_80 : decode b_tr_init 80 = .ok (.iconst 0, 1) := by decide +kernel
theorem d_tr_init_81 : decode b_tr_init 81 = .ok (.putfield 55, 3) := by decide +kernel
theorem d_tr_init_84 : decode b_tr_init 84 = .ok (.return_, 1) := by decide +kernel
theorem d_tr_place_0 : decode b_tr_place 0 = .ok (.aload_n 0, 1) := by decide +kernel
theorem d_tr_place_1 : decode b_tr_place 1 = .ok (.getfield 10, 3) := by decide +kernel
theorem d_tr_place_4 : decode b_tr_place 4 = .ok (.invokevirtual 59, 3) := by decide +kernel
theorem d_tr_place_7 : decode b_tr_place 7 = .ok (.ireturn, 1) := by decide +kernel
theorem d_tr_open_0 : decode b_tr_open 0 = .ok (.aload_n 0, 1) := by decide +kernel
theorem d_tr_open_1 : decode b_tr_open 1 = .ok (.getfield 10, 3) := by decide +kernel
theorem d_tr_open_4 : decode b_tr_open 4 = .ok (.iload_n 1, 1) := by decide +kernel
theorem d_tr_open_5 : decode b_tr_open 5 = .ok (.invokevirtual 63, 3) := by decide +kernel
theorem d_tr_open_8 : decode b_tr_open 8 = .ok (.ifCond .ne 5, 3) := by decide +kernel
theorem d_tr_open_11 : decode b_tr_open 11 = .ok (.iconst 0, 1) := by decide +kernel
theorem d_tr_open_12 : decode b_tr_open 12 = .ok (.ireturn, 1) := by decide +kernel
theorem d_tr_open_13 : decode b_tr_open 13 = .ok (.aload_n 0, 1) := by decide +kernel
theorem d_tr_open_14 : decode b_tr_open 14 = .ok (.getfield 10, 3) := by decide +kernel
theorem d_tr_open_17 : decode b_tr_open 17 = .ok (.getfield 67, 3) := by decide +kernel
theorem d_tr_open_20 : decode b_tr_open 20 = .ok (.iload_n 1, 1) := by decide +kernel
theorem d_tr_open_21 : decode b_tr_open 21 = .ok (.baload, 1) := by decide +kernel
theorem d_tr_open_22 : decode b_tr_open 22 = .ok (.istore_n 3, 1) := by decide +kernel
theorem d_tr_open_23 : decode b_tr_open 23 = .ok (.aload_n 0, 1) := by decide +kernel
theorem d_tr_open_24 : decode b_tr_open 24 = .ok (.getfield 10, 3) := by decide +kernel
theorem d_tr_open_27 : decode b_tr_open 27 = .ok (.getfield 67, 3) := by decide +kernel
theorem d_tr_open_30 : decode b_tr_open 30 = .ok (.iload_n 1, 1) := by decide +kernel
theorem d_tr_open_31 : decode b_tr_open 31 = .ok (.iload_n 2, 1) := by decide +kernel
theorem d_tr_open_32 : decode b_tr_open 32 = .ok (.bastore, 1) := by decide +kernel
theorem d_tr_open_33 : decode b_tr_open 33 = .ok (.iload_n 3, 1) := by decide +kernel
theorem d_tr_open_34 : decode b_tr_open 34 = .ok (.ireturn, 1) := by decide +kernel
theorem d_tr_route_0 : decode b_tr_route 0 = .ok (.aload_n 0, 1) := by decide +kernel
theorem d_tr_route_1 : decode b_tr_route 1 = .ok (.getfield 10, 3) := by decide +kernel
theorem d_tr_route_4 : decode b_tr_route 4 = .ok (.iload_n 1, 1) := by decide +kernel
theorem d_tr_route_5 : decode b_tr_route 5 = .ok (.invokevirtual 63, 3) := by decide +kernel
theorem d_tr_route_8 : decode b_tr_route 8 = .ok (.ifCond .eq 19, 3) := by decide +kernel
theorem d_tr_route_11 : decode b_tr_route 11 = .ok (.aload_n 0, 1) := by decide +kernel
theorem d_tr_route_12 : decode b_tr_route 12 = .ok (.getfield 10, 3) := by decide +kernel
theorem d_tr_route_15 : decode b_tr_route 15 = .ok (.iload_n 2, 1) := by decide +kernel
theorem d_tr_route_16 : decode b_tr_route 16 = .ok (.invokevirtual 63, 3) := by decide +kernel
theorem d_tr_route_19 : decode b_tr_route 19 = .ok (.ifCond .eq 8, 3) := by decide +kernel
theorem d_tr_route_22 : decode b_tr_route 22 = .ok (.iload_n 1, 1) := by decide +kernel
theorem d_tr_route_23 : decode b_tr_route 23 = .ok (.iload_n 2, 1) := by decide +kernel
theorem d_tr_route_24 : decode b_tr_route 24 = .ok (.if_icmp .ne 5, 3) := by decide +kernel
theorem d_tr_route_27 : decode b_tr_route 27 = .ok (.iconst (-1), 1) := by decide +kernel
theorem d_tr_route_28 : decode b_tr_route 28 = .ok (.ireturn, 1) := by decide +kernel
theorem d_tr_route_29 : decode b_tr_route 29 = .ok (.iload_n 3, 1) := by decide +kernel
theorem d_tr_route_30 : decode b_tr_route 30 = .ok (.iconst 1, 1) := by decide +kernel
theorem d_tr_route_31 : decode b_tr_route 31 = .ok (.if_icmp .lt 21, 3) := by decide +kernel
theorem d_tr_route_34 : decode b_tr_route 34 = .ok (.iload_n 3, 1) := by decide +kernel
theorem d_tr_route_35 : decode b_tr_route 35 = .ok (.bipush 127, 2) := by decide +kernel
theorem d_tr_route_37 : decode b_tr_route 37 = .ok (.if_icmp .gt 15, 3) := by decide +kernel
theorem d_tr_route_40 : decode b_tr_route 40 = .ok (.iload 4, 2) := by decide +kernel
theorem d_tr_route_42 : decode b_tr_route 42 = .ok (.ifCond .lt 10, 3) := by decide +kernel
theorem d_tr_route_45 : decode b_tr_route 45 = .ok (.iload 4, 2) := by decide +kernel
theorem d_tr_route_47 : decode b_tr_route 47 = .ok (.bipush 30, 2) := by decide +kernel
theorem d_tr_route_49 : decode b_tr_route 49 = .ok (.if_icmp .le 5, 3) := by decide +kernel
theorem d_tr_route_52 : decode b_tr_route 52 = .ok (.iconst (-1), 1) := by decide +kernel
theorem d_tr_route_53 : decode b_tr_route 53 = .ok (.ireturn, 1) := by decide +kernel
theorem d_tr_route_54 : decode b_tr_route 54 = .ok (.iload 5, 2) := by decide +kernel
theorem d_tr_route_56 : decode b_tr_route 56 = .ok (.iconst 1, 1) := by decide +kernel
theorem d_tr_route_57 : decode b_tr_route 57 = .ok (.if_icmp .lt 10, 3) := by decide +kernel
theorem d_tr_route_60 : decode b_tr_route 60 = .ok (.iload 5, 2) := by decide +kernel
theorem d_tr_route_62 : decode b_tr_route 62 = .ok (.bipush 99, 2) := by decide +kernel
theorem d_tr_route_64 : decode b_tr_route 64 = .ok (.if_icmp .le 5, 3) := by decide +kernel
theorem d_tr_route_67 : decode b_tr_route 67 = .ok (.iconst (-1), 1) := by decide +kernel
theorem d_tr_route_68 : decode b_tr_route 68 = .ok (.ireturn, 1) := by decide +kernel
theorem d_tr_route_69 : decode b_tr_route 69 = .ok (.aload_n 0, 1) := by decide +kernel
theorem d_tr_route_70 : decode b_tr_route 70 = .ok (.getfield 19, 3) := by decide +kernel
theorem d_tr_route_73 : decode b_tr_route 73 = .ok (.iload_n 1, 1) := by decide +kernel
theorem d_tr_route_74 : decode b_tr_route 74 = .ok (.iload_n 2, 1) := by decide +kernel
theorem d_tr_route_75 : decode b_tr_route 75 = .ok (.iload_n 3, 1) := by decide +kernel
theorem d_tr_route_76 : decode b_tr_route 76 = .ok (.iload 4, 2) := by decide +kernel
theorem d_tr_route_78 : decode b_tr_route 78 = .ok (.iload 5, 2) := by decide +kernel
theorem d_tr_route_80 : decode b_tr_route 80 = .ok (.invokevirtual 71, 3) := by decide +kernel
theorem d_tr_route_83 : decode b_tr_route 83 = .ok (.ireturn, 1) := by decide +kernel
theorem d_tr_skip_0 : decode b_tr_skip 0 = .ok (.aload_n 0, 1) := by decide +kernel
theorem d_tr_skip_1 : decode b_tr_skip 1 = .ok (.getfield 19, 3) := by decide +kernel
theorem d_tr_skip_4 : decode b_tr_skip 4 = .ok (.iload_n 1, 1) := by decide +kernel
theorem d_tr_skip_5 : decode b_tr_skip 5 = .ok (.invokevirtual 74, 3) := by decide +kernel
theorem d_tr_skip_8 : decode b_tr_skip 8 = .ok (.ifCond .eq 10, 3) := by decide +kernel
theorem d_tr_skip_11 : decode b_tr_skip 11 = .ok (.iload_n 2, 1) := by decide +kernel
theorem d_tr_skip_12 : decode b_tr_skip 12 = .ok (.invokestatic 75, 3) := by decide +kernel
theorem d_tr_skip_15 : decode b_tr_skip 15 = .ok (.ifCond .ne 5, 3) := by decide +kernel
theorem d_tr_skip_18 : decode b_tr_skip 18 = .ok (.iconst 0, 1) := by decide +kernel
theorem d_tr_skip_19 : decode b_tr_skip 19 = .ok (.ireturn, 1) := by decide +kernel
theorem d_tr_skip_20 : decode b_tr_skip 20 = .ok (.iload_n 3, 1) := by decide +kernel
theorem d_tr_skip_21 : decode b_tr_skip 21 = .ok (.ifCond .eq 18, 3) := by decide +kernel
theorem d_tr_skip_24 : decode b_tr_skip 24 = .ok (.aload_n 0, 1) := by decide +kernel
theorem d_tr_skip_25 : decode b_tr_skip 25 = .ok (.getfield 19, 3) := by decide +kernel
theorem d_tr_skip_28 : decode b_tr_skip 28 = .ok (.getfield 78, 3) := by decide +kernel
theorem d_tr_skip_31 : decode b_tr_skip 31 = .ok (.iload_n 1, 1) := by decide +kernel
theorem d_tr_skip_32 : decode b_tr_skip 32 = .ok (.iload_n 2, 1) := by decide +kernel
theorem d_tr_skip_33 : decode b_tr_skip 33 = .ok (.invokevirtual 82, 3) := by decide +kernel
theorem d_tr_skip_36 : decode b_tr_skip 36 = .ok (.goto 15, 3) := by decide +kernel
theorem d_tr_skip_39 : decode b_tr_skip 39 = .ok (.aload_n 0, 1) := by decide +kernel
theorem d_tr_skip_40 : decode b_tr_skip 40 = .ok (.getfield 19, 3) := by decide +kernel
theorem d_tr_skip_43 : decode b_tr_skip 43 = .ok (.getfield 78, 3) := by decide +kernel
theorem d_tr_skip_46 : decode b_tr_skip 46 = .ok (.iload_n 1, 1) := by decide +kernel
theorem d_tr_skip_47 : decode b_tr_skip 47 = .ok (.iload_n 2, 1) := by decide +kernel
theorem d_tr_skip_48 : decode b_tr_skip 48 = .ok (.invokevirtual 87, 3) := by decide +kernel
theorem d_tr_skip_51 : decode b_tr_skip 51 = .ok (.ireturn, 1) := by decide +kernel
theorem d_tr_isDay_0 : decode b_tr_isDay 0 = .ok (.iload_n 0, 1) := by decide +kernel
theorem d_tr_isDay_1 : decode b_tr_isDay 1 = .ok (.ifCond .lt 13, 3) := by decide +kernel
theorem d_tr_isDay_4 : decode b_tr_isDay 4 = .ok (.iload_n 0, 1) := by decide +kernel
theorem d_tr_isDay_5 : decode b_tr_isDay 5 = .ok (.ldc 204, 2) := by decide +kernel
theorem d_tr_isDay_7 : decode b_tr_isDay 7 = .ok (.if_icmp .gt 7, 3) := by decide +kernel
theorem d_tr_isDay_10 : decode b_tr_isDay 10 = .ok (.iconst 1, 1) := by decide +kernel
theorem d_tr_isDay_11 : decode b_tr_isDay 11 = .ok (.goto 4, 3) := by decide +kernel
theorem d_tr_isDay_14 : decode b_tr_isDay 14 = .ok (.iconst 0, 1) := by decide +kernel
theorem d_tr_isDay_15 : decode b_tr_isDay 15 = .ok (.ireturn, 1) := by decide +kernel
theorem d_tr_copy_0 : decode b_tr_copy 0 = .ok (.aload_n 0, 1) := by decide +kernel
theorem d_tr_copy_1 : decode b_tr_copy 1 = .ok (.getfield 10, 3) := by decide +kernel
theorem d_tr_copy_4 : decode b_tr_copy 4 = .ok (.iload_n 1, 1) := by decide +kernel
theorem d_tr_copy_5 : decode b_tr_copy 5 = .ok (.invokevirtual 63, 3) := by decide +kernel
theorem d_tr_copy_8 : decode b_tr_copy 8 = .ok (.ifCond .ne 5, 3) := by decide +kernel
theorem d_tr_copy_11 : decode b_tr_copy 11 = .ok (.iconst 0, 1) := by decide +kernel
theorem d_tr_copy_12 : decode b_tr_copy 12 = .ok (.ireturn, 1) := by decide +kernel
theorem d_tr_copy_13 : decode b_tr_copy 13 = .ok (.aload_n 0, 1) := by decide +kernel
theorem d_tr_copy_14 : decode b_tr_copy 14 = .ok (.getfield 26, 3) := by decide +kernel
theorem d_tr_copy_17 : decode b_tr_copy 17 = .ok (.iload_n 1, 1) := by decide +kernel
theorem d_tr_copy_18 : decode b_tr_copy 18 = .ok (.invokevirtual 90, 3) := by decide +kernel
theorem d_tr_copy_21 : decode b_tr_copy 21 = .ok (.ireturn, 1) := by decide +kernel
theorem d_tr_priority_0 : decode b_tr_priority 0 = .ok (.aload_n 0, 1) := by decide +kernel
theorem d_tr_priority_1 : decode b_tr_priority 1 = .ok (.getfield 26, 3) := by decide +kernel
theorem d_tr_priority_4 : decode b_tr_priority 4 = .ok (.iload_n 1, 1) := by decide +kernel
theorem d_tr_priority_5 : decode b_tr_priority 5 = .ok (.invokevirtual 93, 3) := by decide +kernel
theorem d_tr_priority_8 : decode b_tr_priority 8 = .ok (.ifCond .ne 5, 3) := by decide +kernel
theorem d_tr_priority_11 : decode b_tr_priority 11 = .ok (.iconst 0, 1) := by decide +kernel
theorem d_tr_priority_12 : decode b_tr_priority 12 = .ok (.ireturn, 1) := by decide +kernel
theorem d_tr_priority_13 : decode b_tr_priority 13 = .ok (.aload_n 0, 1) := by decide +kernel
theorem d_tr_priority_14 : decode b_tr_priority 14 = .ok (.getfield 26, 3) := by decide +kernel
theorem d_tr_priority_17 : decode b_tr_priority 17 = .ok (.getfield 94, 3) := by decide +kernel
theorem d_tr_priority_20 : decode b_tr_priority 20 = .ok (.iload_n 1, 1) := by decide +kernel
theorem d_tr_priority_21 : decode b_tr_priority 21 = .ok (.baload, 1) := by decide +kernel
theorem d_tr_priority_22 : decode b_tr_priority 22 = .ok (.istore_n 3, 1) := by decide +kernel
theorem d_tr_priority_23 : decode b_tr_priority 23 = .ok (.aload_n 0, 1) := by decide +kernel
theorem d_tr_priority_24 : decode b_tr_priority 24 = .ok (.getfield 26, 3) := by decide +kernel
theorem d_tr_priority_27 : decode b_tr_priority 27 = .ok (.getfield 94, 3) := by decide +kernel
theorem d_tr_priority_30 : decode b_tr_priority 30 = .ok (.iload_n 1, 1) := by decide +kernel
theorem d_tr_priority_31 : decode b_tr_priority 31 = .ok (.iload_n 2, 1) := by decide +kernel
theorem d_tr_priority_32 : decode b_tr_priority 32 = .ok (.bastore, 1) := by decide +kernel
theorem d_tr_priority_33 : decode b_tr_priority 33 = .ok (.iload_n 3, 1) := by decide +kernel
theorem d_tr_priority_34 : decode b_tr_priority 34 = .ok (.ireturn, 1) := by decide +kernel
theorem d_tr_floats_0 : decode b_tr_floats 0 = .ok (.aload_n 0, 1) := by decide +kernel
theorem d_tr_floats_1 : decode b_tr_floats 1 = .ok (.getfield 26, 3) := by decide +kernel
theorem d_tr_floats_4 : decode b_tr_floats 4 = .ok (.iload_n 1, 1) := by decide +kernel
theorem d_tr_floats_5 : decode b_tr_floats 5 = .ok (.invokevirtual 93, 3) := by decide +kernel
theorem d_tr_floats_8 : decode b_tr_floats 8 = .ok (.ifCond .ne 5, 3) := by decide +kernel
theorem d_tr_floats_11 : decode b_tr_floats 11 = .ok (.iconst 0, 1) := by decide +kernel
theorem d_tr_floats_12 : decode b_tr_floats 12 = .ok (.ireturn, 1) := by decide +kernel
theorem d_tr_floats_13 : decode b_tr_floats 13 = .ok (.aload_n 0, 1) := by decide +kernel
theorem d_tr_floats_14 : decode b_tr_floats 14 = .ok (.getfield 26, 3) := by decide +kernel
theorem d_tr_floats_17 : decode b_tr_floats 17 = .ok (.getfield 97, 3) := by decide +kernel
theorem d_tr_floats_20 : decode b_tr_floats 20 = .ok (.iload_n 1, 1) := by decide +kernel
theorem d_tr_floats_21 : decode b_tr_floats 21 = .ok (.baload, 1) := by decide +kernel
theorem d_tr_floats_22 : decode b_tr_floats 22 = .ok (.istore_n 3, 1) := by decide +kernel
theorem d_tr_floats_23 : decode b_tr_floats 23 = .ok (.aload_n 0, 1) := by decide +kernel
theorem d_tr_floats_24 : decode b_tr_floats 24 = .ok (.getfield 26, 3) := by decide +kernel
theorem d_tr_floats_27 : decode b_tr_floats 27 = .ok (.getfield 97, 3) := by decide +kernel
theorem d_tr_floats_30 : decode b_tr_floats 30 = .ok (.iload_n 1, 1) := by decide +kernel
theorem d_tr_floats_31 : decode b_tr_floats 31 = .ok (.iload_n 2, 1) := by decide +kernel
theorem d_tr_floats_32 : decode b_tr_floats 32 = .ok (.bastore, 1) := by decide +kernel
theorem d_tr_floats_33 : decode b_tr_floats 33 = .ok (.iload_n 3, 1) := by decide +kernel
theorem d_tr_floats_34 : decode b_tr_floats 34 = .ok (.ireturn, 1) := by decide +kernel
theorem d_tr_send_0 : decode b_tr_send 0 = .ok (.aload_n 0, 1) := by decide +kernel
theorem d_tr_send_1 : decode b_tr_send 1 = .ok (.getfield 26, 3) := by decide +kernel
theorem d_tr_send_4 : decode b_tr_send 4 = .ok (.iload_n 1, 1) := by decide +kernel
theorem d_tr_send_5 : decode b_tr_send 5 = .ok (.invokevirtual 93, 3) := by decide +kernel
theorem d_tr_send_8 : decode b_tr_send 8 = .ok (.ifCond .eq 21, 3) := by decide +kernel
theorem d_tr_send_11 : decode b_tr_send 11 = .ok (.aload_n 0, 1) := by decide +kernel
theorem d_tr_send_12 : decode b_tr_send 12 = .ok (.getfield 10, 3) := by decide +kernel
theorem d_tr_send_15 : decode b_tr_send 15 = .ok (.iload_n 2, 1) := by decide +kernel
theorem d_tr_send_16 : decode b_tr_send 16 = .ok (.invokevirtual 63, 3) := by decide +kernel
theorem d_tr_send_19 : decode b_tr_send 19 = .ok (.ifCond .eq 10, 3) := by decide +kernel
theorem d_tr_send_22 : decode b_tr_send 22 = .ok (.iload_n 3, 1) := by decide +kernel
theorem d_tr_send_23 : decode b_tr_send 23 = .ok (.invokestatic 75, 3) := by decide +kernel
theorem d_tr_send_26 : decode b_tr_send 26 = .ok (.ifCond .ne 5, 3) := by decide +kernel
theorem d_tr_send_29 : decode b_tr_send 29 = .ok (.iconst 0, 1) := by decide +kernel
theorem d_tr_send_30 : decode b_tr_send 30 = .ok (.ireturn, 1) := by decide +kernel
theorem d_tr_send_31 : decode b_tr_send 31 = .ok (.aload_n 0, 1) := by decide +kernel
theorem d_tr_send_32 : decode b_tr_send 32 = .ok (.getfield 26, 3) := by decide +kernel
theorem d_tr_send_35 : decode b_tr_send 35 = .ok (.getfield 100, 3) := by decide +kernel
theorem d_tr_send_38 : decode b_tr_send 38 = .ok (.iload_n 1, 1) := by decide +kernel
theorem d_tr_send_39 : decode b_tr_send 39 = .ok (.iaload, 1) := by decide +kernel
theorem d_tr_send_40 : decode b_tr_send 40 = .ok (.ifCond .ne 29, 3) := by decide +kernel
theorem d_tr_send_43 : decode b_tr_send 43 = .ok (.aload_n 0, 1) := by decide +kernel
theorem d_tr_send_44 : decode b_tr_send 44 = .ok (.getfield 26, 3) := by decide +kernel
theorem d_tr_send_47 : decode b_tr_send 47 = .ok (.getfield 103, 3) := by decide +kernel
theorem d_tr_send_50 : decode b_tr_send 50 = .ok (.iload_n 1, 1) := by decide +kernel
theorem d_tr_send_51 : decode b_tr_send 51 = .ok (.iaload, 1) := by decide +kernel
theorem d_tr_send_52 : decode b_tr_send 52 = .ok (.iload_n 2, 1) := by decide +kernel
theorem d_tr_send_53 : decode b_tr_send 53 = .ok (.if_icmp .eq 16, 3) := by decide +kernel
theorem d_tr_send_56 : decode b_tr_send 56 = .ok (.aload_n 0, 1) := by decide +kernel
theorem d_tr_send_57 : decode b_tr_send 57 = .ok (.getfield 33, 3) := by decide +kernel
theorem d_tr_send_60 : decode b_tr_send 60 = .ok (.getfield 106, 3) := by decide +kernel
theorem d_tr_send_63 : decode b_tr_send 63 = .ok (.sipush 150, 3) := by decide +kernel
theorem d_tr_send_66 : decode b_tr_send 66 = .ok (.if_icmp .ne 5, 3) := by decide +kernel
theorem d_tr_send_69 : decode b_tr_send 69 = .ok (.iconst 0, 1) := by decide +kernel
theorem d_tr_send_70 : decode b_tr_send 70 = .ok (.ireturn, 1) := by decide +kernel
theorem d_tr_send_71 : decode b_tr_send 71 = .ok (.aload_n 0, 1) := by decide +kernel
theorem d_tr_send_72 : decode b_tr_send 72 = .ok (.getfield 10, 3) := by decide +kernel
theorem d_tr_send_75 : decode b_tr_send 75 = .ok (.getfield 67, 3) := by decide +kernel
theorem d_tr_send_78 : decode b_tr_send 78 = .ok (.iload_n 2, 1) := by decide +kernel
theorem d_tr_send_79 : decode b_tr_send 79 = .ok (.baload, 1) := by decide +kernel
theorem d_tr_send_80 : decode b_tr_send 80 = .ok (.ifCond .ne 6, 3) := by decide +kernel
theorem d_tr_send_83 : decode b_tr_send 83 = .ok (.bipush (-2), 2) := by decide +kernel
theorem d_tr_send_85 : decode b_tr_send 85 = .ok (.ireturn, 1) := by decide +kernel
theorem d_tr_send_86 : decode b_tr_send 86 = .ok (.aload_n 0, 1) := by decide +kernel
theorem d_tr_send_87 : decode b_tr_send 87 = .ok (.getfield 26, 3) := by decide +kernel
theorem d_tr_send_90 : decode b_tr_send 90 = .ok (.getfield 94, 3) := by decide +kernel
theorem d_tr_send_93 : decode b_tr_send 93 = .ok (.iload_n 1, 1) := by decide +kernel
theorem d_tr_send_94 : decode b_tr_send 94 = .ok (.baload, 1) := by decide +kernel
theorem d_tr_send_95 : decode b_tr_send 95 = .ok (.ifCond .eq 7, 3) := by decide +kernel
theorem d_tr_send_98 : decode b_tr_send 98 = .ok (.iload_n 3, 1) := by decide +kernel
theorem d_tr_send_99 : decode b_tr_send 99 = .ok (.goto 6, 3) := by decide +kernel
theorem d_tr_send_102 : decode b_tr_send 102 = .ok (.iload_n 3, 1) := by decide +kernel
theorem d_tr_send_103 : decode b_tr_send 103 = .ok (.iconst 1, 1) := by decide +kernel
theorem d_tr_send_104 : decode b_tr_send 104 = .ok (.iadd, 1) := by decide +kernel
theorem d_tr_send_105 : decode b_tr_send 105 = .ok (.istore 4, 2) := by decide +kernel
theorem d_tr_send_107 : decode b_tr_send 107 = .ok (.aload_n 0, 1) := by decide +kernel
theorem d_tr_send_108 : decode b_tr_send 108 = .ok (.getfield 19, 3) := by decide +kernel
theorem d_tr_send_111 : decode b_tr_send 111 = .ok (.aload_n 0, 1) := by decide +kernel
theorem d_tr_send_112 : decode b_tr_send 112 = .ok (.getfield 26, 3) := by decide +kernel
theorem d_tr_send_115 : decode b_tr_send 115 = .ok (.getfield 103, 3) := by decide +kernel
theorem d_tr_send_118 : decode b_tr_send 118 = .ok (.iload_n 1, 1) := by decide +kernel
theorem d_tr_send_119 : decode b_tr_send 119 = .ok (.iaload, 1) := by decide +kernel
theorem d_tr_send_120 : decode b_tr_send 120 = .ok (.iload_n 2, 1) := by decide +kernel
theorem d_tr_send_121 : decode b_tr_send 121 = .ok (.iload 4, 2) := by decide +kernel
theorem d_tr_send_123 : decode b_tr_send 123 = .ok (.invokevirtual 109, 3) := by decide +kernel
theorem d_tr_send_126 : decode b_tr_send 126 = .ok (.istore 5, 2) := by decide +kernel
theorem d_tr_send_128 : decode b_tr_send 128 = .ok (.iload 5, 2) := by decide +kernel
theorem d_tr_send_130 : decode b_tr_send 130 = .ok (.iconst (-1), 1) := by decide +kernel
theorem d_tr_send_131 : decode b_tr_send 131 = .ok (.if_icmp .ne 6, 3) := by decide +kernel
theorem d_tr_send_134 : decode b_tr_send 134 = .ok (.bipush (-3), 2) := by decide +kernel
theorem d_tr_send_136 : decode b_tr_send 136 = .ok (.ireturn, 1) := by decide +kernel
theorem d_tr_send_137 : decode b_tr_send 137 = .ok (.aload_n 0, 1) := by decide +kernel
theorem d_tr_send_138 : decode b_tr_send 138 = .ok (.getfield 33, 3) := by decide +kernel
theorem d_tr_send_141 : decode b_tr_send 141 = .ok (.iload_n 1, 1) := by decide +kernel
theorem d_tr_send_142 : decode b_tr_send 142 = .ok (.iload 5, 2) := by decide +kernel
theorem d_tr_send_144 : decode b_tr_send 144 = .ok (.iload_n 3, 1) := by decide +kernel
theorem d_tr_send_145 : decode b_tr_send 145 = .ok (.aload_n 0, 1) := by decide +kernel
theorem d_tr_send_146 : decode b_tr_send 146 = .ok (.getfield 19, 3) := by decide +kernel
theorem d_tr_send_149 : decode b_tr_send 149 = .ok (.iload 5, 2) := by decide +kernel
theorem d_tr_send_151 : decode b_tr_send 151 = .ok (.iload 4, 2) := by decide +kernel
theorem d_tr_send_153 : decode b_tr_send 153 = .ok (.invokevirtual 113, 3) := by decide +kernel
theorem d_tr_send_156 : decode b_tr_send 156 = .ok (.invokevirtual 117, 3) := by decide +kernel
theorem d_tr_send_159 : decode b_tr_send 159 = .ok (.istore 6, 2) := by decide +kernel
theorem d_tr_send_161 : decode b_tr_send 161 = .ok (.aload_n 0, 1) := by decide +kernel
theorem d_tr_send_162 : decode b_tr_send 162 = .ok (.getfield 26, 3) := by decide +kernel
theorem d_tr_send_165 : decode b_tr_send 165 = .ok (.getfield 100, 3) := by decide +kernel
theorem d_tr_send_168 : decode b_tr_send 168 = .ok (.iload_n 1, 1) := by decide +kernel
theorem d_tr_send_169 : decode b_tr_send 169 = .ok (.iload 6, 2) := by decide +kernel
theorem d_tr_send_171 : decode b_tr_send 171 = .ok (.iastore, 1) := by decide +kernel
theorem d_tr_send_172 : decode b_tr_send 172 = .ok (.iload 6, 2) := by decide +kernel
theorem d_tr_send_174 : decode b_tr_send 174 = .ok (.ireturn, 1) := by decide +kernel
theorem d_tr_back_0 : decode b_tr_back 0 = .ok (.aload_n 0, 1) := by decide +kernel
theorem d_tr_back_1 : decode b_tr_back 1 = .ok (.getfield 33, 3) := by decide +kernel
theorem d_tr_back_4 : decode b_tr_back 4 = .ok (.iload_n 1, 1) := by decide +kernel
theorem d_tr_back_5 : decode b_tr_back 5 = .ok (.invokevirtual 120, 3) := by decide +kernel
theorem d_tr_back_8 : decode b_tr_back 8 = .ok (.ifCond .eq 15, 3) := by decide +kernel
theorem d_tr_back_11 : decode b_tr_back 11 = .ok (.aload_n 0, 1) := by decide +kernel
theorem d_tr_back_12 : decode b_tr_back 12 = .ok (.getfield 33, 3) := by decide +kernel
theorem d_tr_back_15 : decode b_tr_back 15 = .ok (.getfield 121, 3) := by decide +kernel
theorem d_tr_back_18 : decode b_tr_back 18 = .ok (.iload_n 1, 1) := by decide +kernel
theorem d_tr_back_19 : decode b_tr_back 19 = .ok (.iaload, 1) := by decide +kernel
theorem d_tr_back_20 : decode b_tr_back 20 = .ok (.ifCond .eq 5, 3) := by decide +kernel
theorem d_tr_back_23 : decode b_tr_back 23 = .ok (.iconst 0, 1) := by decide +kernel
theorem d_tr_back_24 : decode b_tr_back 24 = .ok (.ireturn, 1) := by decide +kernel
theorem d_tr_back_25 : decode b_tr_back 25 = .ok (.aload_n 0, 1) := by decide +kernel
theorem d_tr_back_26 : decode b_tr_back 26 = .ok (.getfield 33, 3) := by decide +kernel
theorem d_tr_back_29 : decode b_tr_back 29 = .ok (.getfield 121, 3) := by decide +kernel
theorem d_tr_back_32 : decode b_tr_back 32 = .ok (.iload_n 1, 1) := by decide +kernel
theorem d_tr_back_33 : decode b_tr_back 33 = .ok (.iconst 5, 1) := by decide +kernel
theorem d_tr_back_34 : decode b_tr_back 34 = .ok (.iastore, 1) := by decide +kernel
theorem d_tr_back_35 : decode b_tr_back 35 = .ok (.aload_n 0, 1) := by decide +kernel
theorem d_tr_back_36 : decode b_tr_back 36 = .ok (.getfield 26, 3) := by decide +kernel
theorem d_tr_back_39 : decode b_tr_back 39 = .ok (.getfield 100, 3) := by decide +kernel
theorem d_tr_back_42 : decode b_tr_back 42 = .ok (.aload_n 0, 1) := by decide +kernel
theorem d_tr_back_43 : decode b_tr_back 43 = .ok (.getfield 33, 3) := by decide +kernel
theorem d_tr_back_46 : decode b_tr_back 46 = .ok (.getfield 124, 3) := by decide +kernel
theorem d_tr_back_49 : decode b_tr_back 49 = .ok (.iload_n 1, 1) := by decide +kernel
theorem d_tr_back_50 : decode b_tr_back 50 = .ok (.iaload, 1) := by decide +kernel
theorem d_tr_back_51 : decode b_tr_back 51 = .ok (.iconst 0, 1) := by decide +kernel
theorem d_tr_back_52 : decode b_tr_back 52 = .ok (.iastore, 1) := by decide +kernel
theorem d_tr_back_53 : decode b_tr_back 53 = .ok (.iconst 1, 1) := by decide +kernel
theorem d_tr_back_54 : decode b_tr_back 54 = .ok (.ireturn, 1) := by decide +kernel
theorem d_tr_bin_0 : decode b_tr_bin 0 = .ok (.aload_n 0, 1) := by decide +kernel
theorem d_tr_bin_1 : decode b_tr_bin 1 = .ok (.iload_n 1, 1) := by decide +kernel
theorem d_tr_bin_2 : decode b_tr_bin 2 = .ok (.iload_n 2, 1) := by decide +kernel
theorem d_tr_bin_3 : decode b_tr_bin 3 = .ok (.invokevirtual 127, 3) := by decide +kernel
theorem d_tr_bin_6 : decode b_tr_bin 6 = .ok (.iload_n 3, 1) := by decide +kernel
theorem d_tr_bin_7 : decode b_tr_bin 7 = .ok (.ifCond .lt 20, 3) := by decide +kernel
theorem d_tr_bin_10 : decode b_tr_bin 10 = .ok (.iload_n 3, 1) := by decide +kernel
theorem d_tr_bin_11 : decode b_tr_bin 11 = .ok (.aload_n 0, 1) := by decide +kernel
theorem d_tr_bin_12 : decode b_tr_bin 12 = .ok (.getfield 55, 3) := by decide +kernel
theorem d_tr_bin_15 : decode b_tr_bin 15 = .ok (.if_icmp .ge 12, 3) := by decide +kernel
theorem d_tr_bin_18 : decode b_tr_bin 18 = .ok (.aload_n 0, 1) := by decide +kernel
theorem d_tr_bin_19 : decode b_tr_bin 19 = .ok (.getfield 51, 3) := by decide +kernel
theorem d_tr_bin_22 : decode b_tr_bin 22 = .ok (.iload_n 3, 1) := by decide +kernel
theorem d_tr_bin_23 : decode b_tr_bin 23 = .ok (.iaload, 1) := by decide +kernel
theorem d_tr_bin_24 : decode b_tr_bin 24 = .ok (.goto 4, 3) := by decide +kernel
theorem d_tr_bin_27 : decode b_tr_bin 27 = .ok (.iconst 0, 1) := by decide +kernel
theorem d_tr_bin_28 : decode b_tr_bin 28 = .ok (.ireturn, 1) := by decide +kernel
theorem d_tr_queueBin_0 : decode b_tr_queueBin 0 = .ok (.aload_n 0, 1) := by decide +kernel
theorem d_tr_queueBin_1 : decode b_tr_queueBin 1 = .ok (.iconst 0, 1) := by decide +kernel
theorem d_tr_queueBin_2 : decode b_tr_queueBin 2 = .ok (.putfield 55, 3) := by decide +kernel
theorem d_tr_queueBin_5 : decode b_tr_queueBin 5 = .ok (.iconst 1, 1) := by decide +kernel
theorem d_tr_queueBin_6 : decode b_tr_queueBin 6 = .ok (.istore_n 3, 1) := by decide +kernel
theorem d_tr_queueBin_7 : decode b_tr_queueBin 7 = .ok (.iload_n 3, 1) := by decide +kernel
theorem d_tr_queueBin_8 : decode b_tr_queueBin 8 = .ok (.aload_n 0, 1) := by decide +kernel
theorem d_tr_queueBin_9 : decode b_tr_queueBin 9 = .ok (.getfield 33, 3) := by decide +kernel
theorem d_tr_queueBin_12 : decode b_tr_queueBin 12 = .ok (.getfield 106, 3) := by decide +kernel
theorem d_tr_queueBin_15 : decode b_tr_queueBin 15 = .ok (.if_icmp .gt 47, 3) := by decide +kernel
theorem d_tr_queueBin_18 : decode b_tr_queueBin 18 = .ok (.aload_n 0, 1) := by decide +kernel
theorem d_tr_queueBin_19 : decode b_tr_queueBin 19 = .ok (.getfield 33, 3) := by decide +kernel
theorem d_tr_queueBin_22 : decode b_tr_queueBin 22 = .ok (.getfield 121, 3) := by decide +kernel
theorem d_tr_queueBin_25 : decode b_tr_queueBin 25 = .ok (.iload_n 3, 1) := by decide +kernel
theorem d_tr_queueBin_26 : decode b_tr_queueBin 26 = .ok (.iaload, 1) := by decide +kernel
theorem d_tr_queueBin_27 : decode b_tr_queueBin 27 = .ok (.ifCond .ne 29, 3) := by decide +kernel
theorem d_tr_queueBin_30 : decode b_tr_queueBin 30 = .ok (.aload_n 0, 1) := by decide +kernel
theorem d_tr_queueBin_31 : decode b_tr_queueBin 31 = .ok (.getfield 19, 3) := by decide +kernel
theorem d_tr_queueBin_34 : decode b_tr_queueBin 34 = .ok (.aload_n 0, 1) := by decide +kernel
theorem d_tr_queueBin_35 : decode b_tr_queueBin 35 = .ok (.getfield 33, 3) := by decide +kernel
theorem d_tr_queueBin_38 : decode b_tr_queueBin 38 = .ok (.getfield 174, 3) := by decide +kernel
theorem d_tr_queueBin_41 : decode b_tr_queueBin 41 = .ok (.iload_n 3, 1) := by decide +kernel
theorem d_tr_queueBin_42 : decode b_tr_queueBin 42 = .ok (.iaload, 1) := by decide +kernel
theorem d_tr_queueBin_43 : decode b_tr_queueBin 43 = .ok (.iload_n 1, 1) := by decide +kernel
theorem d_tr_queueBin_44 : decode b_tr_queueBin 44 = .ok (.iload_n 2, 1) := by decide +kernel
theorem d_tr_queueBin_45 : decode b_tr_queueBin 45 = .ok (.invokevirtual 189, 3) := by decide +kernel
theorem d_tr_queueBin_48 : decode b_tr_queueBin 48 = .ok (.ifCond .eq 8, 3) := by decide +kernel
theorem d_tr_queueBin_51 : decode b_tr_queueBin 51 = .ok (.aload_n 0, 1) := by decide +kernel
theorem d_tr_queueBin_52 : decode b_tr_queueBin 52 = .ok (.iload_n 3, 1) := by decide +kernel
theorem d_tr_queueBin_53 : decode b_tr_queueBin 53 = .ok (.invokevirtual 215, 3) := by decide +kernel
theorem d_tr_queueBin_56 : decode b_tr_queueBin 56 = .ok (.iinc 3 1, 3) := by decide +kernel
theorem d_tr_queueBin_59 : decode b_tr_queueBin 59 = .ok (.goto (-52), 3) := by decide +kernel
theorem d_tr_queueBin_62 : decode b_tr_queueBin 62 = .ok (.return_, 1) := by decide +kernel
theorem d_tr_enqueue_0 : decode b_tr_enqueue 0 = .ok (.aload_n 0, 1) := by decide +kernel
theorem d_tr_enqueue_1 : decode b_tr_enqueue 1 = .ok (.getfield 55, 3) := by decide +kernel
theorem d_tr_enqueue_4 : decode b_tr_enqueue 4 = .ok (.istore_n 2, 1) := by decide +kernel
theorem d_tr_enqueue_5 : decode b_tr_enqueue 5 = .ok (.iload_n 2, 1) := by decide +kernel
theorem d_tr_enqueue_6 : decode b_tr_enqueue 6 = .ok (.ifCond .le 39, 3) := by decide +kernel
theorem d_tr_enqueue_9 : decode b_tr_enqueue 9 = .ok (.aload_n 0, 1) := by decide +kernel
theorem d_tr_enqueue_10 : decode b_tr_enqueue 10 = .ok (.iload_n 1, 1) := by decide +kernel
theorem d_tr_enqueue_11 : decode b_tr_enqueue 11 = .ok (.aload_n 0, 1) := by decide +kernel
theorem d_tr_enqueue_12 : decode b_tr_enqueue 12 = .ok (.getfield 51, 3) := by decide +kernel
theorem d_tr_enqueue_15 : decode b_tr_enqueue 15 = .ok (.iload_n 2, 1) := by decide +kernel
theorem d_tr_enqueue_16 : decode b_tr_enqueue 16 = .ok (.iconst 1, 1) := by decide +kernel
theorem d_tr_enqueue_17 : decode b_tr_enqueue 17 = .ok (.isub, 1) := by decide +kernel
theorem d_tr_enqueue_18 : decode b_tr_enqueue 18 = .ok (.iaload, 1) := by decide +kernel
theorem d_tr_enqueue_19 : decode b_tr_enqueue 19 = .ok (.invokevirtual 219, 3) := by decide +kernel
theorem d_tr_enqueue_22 : decode b_tr_enqueue 22 = .ok (.ifCond .eq 23, 3) := by decide +kernel
theorem d_tr_enqueue_25 : decode b_tr_enqueue 25 = .ok (.aload_n 0, 1) := by decide +kernel
theorem d_tr_enqueue_26 : decode b_tr_enqueue 26 = .ok (.getfield 51, 3) := by decide +kernel
theorem d_tr_enqueue_29 : decode b_tr_enqueue 29 = .ok (.iload_n 2, 1) := by decide +kernel
theorem d_tr_enqueue_30 : decode b_tr_enqueue 30 = .ok (.aload_n 0, 1) := by decide +kernel
theorem d_tr_enqueue_31 : decode b_tr_enqueue 31 = .ok (.getfield 51, 3) := by decide +kernel
theorem d_tr_enqueue_34 : decode b_tr_enqueue 34 = .ok (.iload_n 2, 1) := by decide +kernel
theorem d_tr_enqueue_35 : decode b_tr_enqueue 35 = .ok (.iconst 1, 1) := by decide +kernel
theorem d_tr_enqueue_36 : decode b_tr_enqueue 36 = .ok (.isub, 1) := by decide +kernel
theorem d_tr_enqueue_37 : decode b_tr_enqueue 37 = .ok (.iaload, 1) := by decide +kernel
theorem d_tr_enqueue_38 : decode b_tr_enqueue 38 = .ok (.iastore, 1) := by decide +kernel
theorem d_tr_enqueue_39 : decode b_tr_enqueue 39 = .ok (.iinc 2 (-1), 3) := by decide +kernel
theorem d_tr_enqueue_42 : decode b_tr_enqueue 42 = .ok (.goto (-37), 3) := by decide +kernel
theorem d_tr_enqueue_45 : decode b_tr_enqueue 45 = .ok (.aload_n 0, 1) := by decide +kernel
theorem d_tr_enqueue_46 : decode b_tr_enqueue 46 = .ok (.getfield 51, 3) := by decide +kernel
theorem d_tr_enqueue_49 : decode b_tr_enqueue 49 = .ok (.iload_n 2, 1) := by decide +kernel
theorem d_tr_enqueue_50 : decode b_tr_enqueue 50 = .ok (.iload_n 1, 1) := by decide +kernel
theorem d_tr_enqueue_51 : decode b_tr_enqueue 51 = .ok (.iastore, 1) := by decide +kernel
theorem d_tr_enqueue_52 : decode b_tr_enqueue 52 = .ok (.aload_n 0, 1) := by decide +kernel
theorem d_tr_enqueue_53 : decode b_tr_enqueue 53 = .ok (.dup, 1) := by decide +kernel
theorem d_tr_enqueue_54 : decode b_tr_enqueue 54 = .ok (.getfield 55, 3) := by decide +kernel
theorem d_tr_enqueue_57 : decode b_tr_enqueue 57 = .ok (.iconst 1, 1) := by decide +kernel
theorem d_tr_enqueue_58 : decode b_tr_enqueue 58 = .ok (.iadd, 1) := by decide +kernel
theorem d_tr_enqueue_59 : decode b_tr_enqueue 59 = .ok (.putfield 55, 3) := by decide +kernel
theorem d_tr_enqueue_62 : decode b_tr_enqueue 62 = .ok (.return_, 1) := by decide +kernel
theorem d_tr_isBefore_0 : decode b_tr_isBefore 0 = .ok (.aload_n 0, 1) := by decide +kernel
theorem d_tr_isBefore_1 : decode b_tr_isBefore 1 = .ok (.getfield 26, 3) := by decide +kernel
theorem d_tr_isBefore_4 : decode b_tr_isBefore 4 = .ok (.getfield 94, 3) := by decide +kernel
theorem d_tr_isBefore_7 : decode b_tr_isBefore 7 = .ok (.aload_n 0, 1) := by decide +kernel
theorem d_tr_isBefore_8 : decode b_tr_isBefore 8 = .ok (.getfield 33, 3) := by decide +kernel
theorem d_tr_isBefore_11 : decode b_tr_isBefore 11 = .ok (.getfield 124, 3) := by decide +kernel
theorem d_tr_isBefore_14 : decode b_tr_isBefore 14 = .ok (.iload_n 1, 1) := by decide +kernel
theorem d_tr_isBefore_15 : decode b_tr_isBefore 15 = .ok (.iaload, 1) := by decide +kernel
theorem d_tr_isBefore_16 : decode b_tr_isBefore 16 = .ok (.baload, 1) := by decide +kernel
theorem d_tr_isBefore_17 : decode b_tr_isBefore 17 = .ok (.istore_n 3, 1) := by decide +kernel
theorem d_tr_isBefore_18 : decode b_tr_isBefore 18 = .ok (.iload_n 3, 1) := by decide +kernel
theorem d_tr_isBefore_19 : decode b_tr_isBefore 19 = .ok (.aload_n 0, 1) := by decide +kernel
theorem d_tr_isBefore_20 : decode b_tr_isBefore 20 = .ok (.getfield 26, 3) := by decide +kernel
theorem d_tr_isBefore_23 : decode b_tr_isBefore 23 = .ok (.getfield 94, 3) := by decide +kernel
theorem d_tr_isBefore_26 : decode b_tr_isBefore 26 = .ok (.aload_n 0, 1) := by decide +kernel
theorem d_tr_isBefore_27 : decode b_tr_isBefore 27 = .ok (.getfield 33, 3) := by decide +kernel
theorem d_tr_isBefore_30 : decode b_tr_isBefore 30 = .ok (.getfield 124, 3) := by decide +kernel
theorem d_tr_isBefore_33 : decode b_tr_isBefore 33 = .ok (.iload_n 2, 1) := by decide +kernel
theorem d_tr_isBefore_34 : decode b_tr_isBefore 34 = .ok (.iaload, 1) := by decide +kernel
theorem d_tr_isBefore_35 : decode b_tr_isBefore 35 = .ok (.baload, 1) := by decide +kernel
theorem d_tr_isBefore_36 : decode b_tr_isBefore 36 = .ok (.if_icmp .eq 5, 3) := by decide +kernel
theorem d_tr_isBefore_39 : decode b_tr_isBefore 39 = .ok (.iload_n 3, 1) := by decide +kernel
theorem d_tr_isBefore_40 : decode b_tr_isBefore 40 = .ok (.ireturn, 1) := by decide +kernel
theorem d_tr_isBefore_41 : decode b_tr_isBefore 41 = .ok (.aload_n 0, 1) := by decide +kernel
theorem d_tr_isBefore_42 : decode b_tr_isBefore 42 = .ok (.getfield 33, 3) := by decide +kernel
theorem d_tr_isBefore_45 : decode b_tr_isBefore 45 = .ok (.getfield 171, 3) := by decide +kernel
theorem d_tr_isBefore_48 : decode b_tr_isBefore 48 = .ok (.iload_n 1, 1) := by decide +kernel
theorem d_tr_isBefore_49 : decode b_tr_isBefore 49 = .ok (.iaload, 1) := by decide +kernel
theorem d_tr_isBefore_50 : decode b_tr_isBefore 50 = .ok (.aload_n 0, 1) := by decide +kernel
theorem d_tr_isBefore_51 : decode b_tr_isBefore 51 = .ok (.getfield 33, 3) := by decide +kernel
theorem d_tr_isBefore_54 : decode b_tr_isBefore 54 = .ok (.getfield 171, 3) := by decide +kernel
theorem d_tr_isBefore_57 : decode b_tr_isBefore 57 = .ok (.iload_n 2, 1) := by decide +kernel
theorem d_tr_isBefore_58 : decode b_tr_isBefore 58 = .ok (.iaload, 1) := by decide +kernel
theorem d_tr_isBefore_59 : decode b_tr_isBefore 59 = .ok (.if_icmp .eq 30, 3) := by decide +kernel
theorem d_tr_isBefore_62 : decode b_tr_isBefore 62 = .ok (.aload_n 0, 1) := by decide +kernel
theorem d_tr_isBefore_63 : decode b_tr_isBefore 63 = .ok (.getfield 33, 3) := by decide +kernel
theorem d_tr_isBefore_66 : decode b_tr_isBefore 66 = .ok (.getfield 171, 3) := by decide +kernel
theorem d_tr_isBefore_69 : decode b_tr_isBefore 69 = .ok (.iload_n 1, 1) := by decide +kernel
theorem d_tr_isBefore_70 : decode b_tr_isBefore 70 = .ok (.iaload, 1) := by decide +kernel
theorem d_tr_isBefore_71 : decode b_tr_isBefore 71 = .ok (.aload_n 0, 1) := by decide +kernel
theorem d_tr_isBefore_72 : decode b_tr_isBefore 72 = .ok (.getfield 33, 3) := by decide +kernel
theorem d_tr_isBefore_75 : decode b_tr_isBefore 75 = .ok (.getfield 171, 3) := by decide +kernel
theorem d_tr_isBefore_78 : decode b_tr_isBefore 78 = .ok (.iload_n 2, 1) := by decide +kernel
theorem d_tr_isBefore_79 : decode b_tr_isBefore 79 = .ok (.iaload, 1) := by decide +kernel
theorem d_tr_isBefore_80 : decode b_tr_isBefore 80 = .ok (.if_icmp .ge 7, 3) := by decide +kernel
theorem d_tr_isBefore_83 : decode b_tr_isBefore 83 = .ok (.iconst 1, 1) := by decide +kernel
theorem d_tr_isBefore_84 : decode b_tr_isBefore 84 = .ok (.goto 4, 3) := by decide +kernel
theorem d_tr_isBefore_87 : decode b_tr_isBefore 87 = .ok (.iconst 0, 1) := by decide +kernel
theorem d_tr_isBefore_88 : decode b_tr_isBefore 88 = .ok (.ireturn, 1) := by decide +kernel
theorem d_tr_isBefore_89 : decode b_tr_isBefore 89 = .ok (.iload_n 1, 1) := by decide +kernel
theorem d_tr_isBefore_90 : decode b_tr_isBefore 90 = .ok (.iload_n 2, 1) := by decide +kernel
theorem d_tr_isBefore_91 : decode b_tr_isBefore 91 = .ok (.if_icmp .ge 7, 3) := by decide +kernel
theorem d_tr_isBefore_94 : decode b_tr_isBefore 94 = .ok (.iconst 1, 1) := by decide +kernel
theorem d_tr_isBefore_95 : decode b_tr_isBefore 95 = .ok (.goto 4, 3) := by decide +kernel
theorem d_tr_isBefore_98 : decode b_tr_isBefore 98 = .ok (.iconst 0, 1) := by decide +kernel
theorem d_tr_isBefore_99 : decode b_tr_isBefore 99 = .ok (.ireturn, 1) := by decide +kernel
theorem d_tr_load_0 : decode b_tr_load 0 = .ok (.aload_n 0, 1) := by decide +kernel
theorem d_tr_load_1 : decode b_tr_load 1 = .ok (.getfield 19, 3) := by decide +kernel
theorem d_tr_load_4 : decode b_tr_load 4 = .ok (.iload_n 1, 1) := by decide +kernel
theorem d_tr_load_5 : decode b_tr_load 5 = .ok (.invokevirtual 74, 3) := by decide +kernel
theorem d_tr_load_8 : decode b_tr_load 8 = .ok (.ifCond .eq 22, 3) := by decide +kernel
theorem d_tr_load_11 : decode b_tr_load 11 = .ok (.iload_n 2, 1) := by decide +kernel
theorem d_tr_load_12 : decode b_tr_load 12 = .ok (.invokestatic 75, 3) := by decide +kernel
theorem d_tr_load_15 : decode b_tr_load 15 = .ok (.ifCond .eq 15, 3) := by decide +kernel
theorem d_tr_load_18 : decode b_tr_load 18 = .ok (.aload_n 0, 1) := by decide +kernel
theorem d_tr_load_19 : decode b_tr_load 19 = .ok (.getfield 19, 3) := by decide +kernel
theorem d_tr_load_22 : decode b_tr_load 22 = .ok (.iload_n 1, 1) := by decide +kernel
theorem d_tr_load_23 : decode b_tr_load 23 = .ok (.iload_n 2, 1) := by decide +kernel
theorem d_tr_load_24 : decode b_tr_load 24 = .ok (.invokevirtual 131, 3) := by decide +kernel
theorem d_tr_load_27 : decode b_tr_load 27 = .ok (.ifCond .ne 5, 3) := by decide +kernel
theorem d_tr_load_30 : decode b_tr_load 30 = .ok (.iconst 0, 1) := by decide +kernel
theorem d_tr_load_31 : decode b_tr_load 31 = .ok (.ireturn, 1) := by decide +kernel
theorem d_tr_load_32 : decode b_tr_load 32 = .ok (.aload_n 0, 1) := by decide +kernel
theorem d_tr_load_33 : decode b_tr_load 33 = .ok (.getfield 19, 3) := by decide +kernel
theorem d_tr_load_36 : decode b_tr_load 36 = .ok (.getfield 134, 3) := by decide +kernel
theorem d_tr_load_39 : decode b_tr_load 39 = .ok (.iload_n 1, 1) := by decide +kernel
theorem d_tr_load_40 : decode b_tr_load 40 = .ok (.iaload, 1) := by decide +kernel
theorem d_tr_load_41 : decode b_tr_load 41 = .ok (.iload_n 2, 1) := by decide +kernel
theorem d_tr_load_42 : decode b_tr_load 42 = .ok (.if_icmp .ge 15, 3) := by decide +kernel
theorem d_tr_load_45 : decode b_tr_load 45 = .ok (.aload_n 0, 1) := by decide +kernel
theorem d_tr_load_46 : decode b_tr_load 46 = .ok (.getfield 40, 3) := by decide +kernel
theorem d_tr_load_49 : decode b_tr_load 49 = .ok (.getfield 137, 3) := by decide +kernel
theorem d_tr_load_52 : decode b_tr_load 52 = .ok (.bipush 60, 2) := by decide +kernel
theorem d_tr_load_54 : decode b_tr_load 54 = .ok (.if_icmp .ne 5, 3) := by decide +kernel
theorem d_tr_load_57 : decode b_tr_load 57 = .ok (.iconst 0, 1) := by decide +kernel
theorem d_tr_load_58 : decode b_tr_load 58 = .ok (.ireturn, 1) := by decide +kernel
theorem d_tr_load_59 : decode b_tr_load 59 = .ok (.aload_n 0, 1) := by decide +kernel
theorem d_tr_load_60 : decode b_tr_load 60 = .ok (.getfield 19, 3) := by decide +kernel
theorem d_tr_load_63 : decode b_tr_load 63 = .ok (.getfield 134, 3) := by decide +kernel
theorem d_tr_load_66 : decode b_tr_load 66 = .ok (.iload_n 1, 1) := by decide +kernel
theorem d_tr_load_67 : decode b_tr_load 67 = .ok (.iload_n 2, 1) := by decide +kernel
theorem d_tr_load_68 : decode b_tr_load 68 = .ok (.iastore, 1) := by decide +kernel
theorem d_tr_load_69 : decode b_tr_load 69 = .ok (.aload_n 0, 1) := by decide +kernel
theorem d_tr_load_70 : decode b_tr_load 70 = .ok (.getfield 40, 3) := by decide +kernel
theorem d_tr_load_73 : decode b_tr_load 73 = .ok (.invokevirtual 138, 3) := by decide +kernel
theorem d_tr_load_76 : decode b_tr_load 76 = .ok (.istore_n 3, 1) := by decide +kernel
theorem d_tr_load_77 : decode b_tr_load 77 = .ok (.aload_n 0, 1) := by decide +kernel
theorem d_tr_load_78 : decode b_tr_load 78 = .ok (.iload_n 1, 1) := by decide +kernel
theorem d_tr_load_79 : decode b_tr_load 79 = .ok (.iload_n 2, 1) := by decide +kernel
theorem d_tr_load_80 : decode b_tr_load 80 = .ok (.invokevirtual 141, 3) := by decide +kernel
theorem d_tr_load_83 : decode b_tr_load 83 = .ok (.aload_n 0, 1) := by decide +kernel
theorem d_tr_load_84 : decode b_tr_load 84 = .ok (.getfield 10, 3) := by decide +kernel
theorem d_tr_load_87 : decode b_tr_load 87 = .ok (.getfield 67, 3) := by decide +kernel
theorem d_tr_load_90 : decode b_tr_load 90 = .ok (.aload_n 0, 1) := by decide +kernel
theorem d_tr_load_91 : decode b_tr_load 91 = .ok (.getfield 19, 3) := by decide +kernel
theorem d_tr_load_94 : decode b_tr_load 94 = .ok (.getfield 144, 3) := by decide +kernel
theorem d_tr_load_97 : decode b_tr_load 97 = .ok (.iload_n 1, 1) := by decide +kernel
theorem d_tr_load_98 : decode b_tr_load 98 = .ok (.iaload, 1) := by decide +kernel
theorem d_tr_load_99 : decode b_tr_load 99 = .ok (.baload, 1) := by decide +kernel
theorem d_tr_load_100 : decode b_tr_load 100 = .ok (.ifCond .eq 38, 3) := by decide +kernel
theorem d_tr_load_103 : decode b_tr_load 103 = .ok (.aload_n 0, 1) := by decide +kernel
theorem d_tr_load_104 : decode b_tr_load 104 = .ok (.getfield 55, 3) := by decide +kernel
theorem d_tr_load_107 : decode b_tr_load 107 = .ok (.aload_n 0, 1) := by decide +kernel
theorem d_tr_load_108 : decode b_tr_load 108 = .ok (.getfield 19, 3) := by decide +kernel
theorem d_tr_load_111 : decode b_tr_load 111 = .ok (.getfield 147, 3) := by decide +kernel
theorem d_tr_load_114 : decode b_tr_load 114 = .ok (.iload_n 1, 1) := by decide +kernel
theorem d_tr_load_115 : decode b_tr_load 115 = .ok (.iaload, 1) := by decide +kernel
theorem d_tr_load_116 : decode b_tr_load 116 = .ok (.invokestatic 150, 3) := by decide +kernel
theorem d_tr_load_119 : decode b_tr_load 119 = .ok (.istore 4, 2) := by decide +kernel
theorem d_tr_load_121 : decode b_tr_load 121 = .ok (.aload_n 0, 1) := by decide +kernel
theorem d_tr_load_122 : decode b_tr_load 122 = .ok (.iload 4, 2) := by decide +kernel
theorem d_tr_load_124 : decode b_tr_load 124 = .ok (.iload_n 2, 1) := by decide +kernel
theorem d_tr_load_125 : decode b_tr_load 125 = .ok (.invokevirtual 155, 3) := by decide +kernel
theorem d_tr_load_128 : decode b_tr_load 128 = .ok (.aload_n 0, 1) := by decide +kernel
theorem d_tr_load_129 : decode b_tr_load 129 = .ok (.iload 4, 2) := by decide +kernel
theorem d_tr_load_131 : decode b_tr_load 131 = .ok (.iconst 2, 1) := by decide +kernel
theorem d_tr_load_132 : decode b_tr_load 132 = .ok (.invokevirtual 158, 3) := by decide +kernel
theorem d_tr_load_135 : decode b_tr_load 135 = .ok (.goto 9, 3) := by decide +kernel
theorem d_tr_load_138 : decode b_tr_load 138 = .ok (.aload_n 0, 1) := by decide +kernel
theorem d_tr_load_139 : decode b_tr_load 139 = .ok (.iconst 0, 1) := by decide +kernel
theorem d_tr_load_140 : decode b_tr_load 140 = .ok (.iconst 1, 1) := by decide +kernel
theorem d_tr_load_141 : decode b_tr_load 141 = .ok (.invokevirtual 158, 3) := by decide +kernel
theorem d_tr_load_144 : decode b_tr_load 144 = .ok (.iload_n 3, 1) := by decide +kernel
theorem d_tr_load_145 : decode b_tr_load 145 = .ok (.ireturn, 1) := by decide +kernel
theorem d_tr_queueDue_0 : decode b_tr_queueDue 0 = .ok (.aload_n 0, 1) := by decide +kernel
theorem d_tr_queueDue_1 : decode b_tr_queueDue 1 = .ok (.iconst 0, 1) := by decide +kernel
theorem d_tr_queueDue_2 : decode b_tr_queueDue 2 = .ok (.putfield 55, 3) := by decide +kernel
theorem d_tr_queueDue_5 : decode b_tr_queueDue 5 = .ok (.iconst 1, 1) := by decide +kernel
theorem d_tr_queueDue_6 : decode b_tr_queueDue 6 = .ok (.istore_n 3, 1) := by decide +kernel
theorem d_tr_queueDue_7 : decode b_tr_queueDue 7 = .ok (.iload_n 3, 1) := by decide +kernel
theorem d_tr_queueDue_8 : decode b_tr_queueDue 8 = .ok (.aload_n 0, 1) := by decide +kernel
theorem d_tr_queueDue_9 : decode b_tr_queueDue 9 = .ok (.getfield 33, 3) := by decide +kernel
theorem d_tr_queueDue_12 : decode b_tr_queueDue 12 = .ok (.getfield 106, 3) := by decide +kernel
theorem d_tr_queueDue_15 : decode b_tr_queueDue 15 = .ok (.if_icmp .gt 64, 3) := by decide +kernel
theorem d_tr_queueDue_18 : decode b_tr_queueDue 18 = .ok (.aload_n 0, 1) := by decide +kernel
theorem d_tr_queueDue_19 : decode b_tr_queueDue 19 = .ok (.getfield 33, 3) := by decide +kernel
theorem d_tr_queueDue_22 : decode b_tr_queueDue 22 = .ok (.getfield 121, 3) := by decide +kernel
theorem d_tr_queueDue_25 : decode b_tr_queueDue 25 = .ok (.iload_n 3, 1) := by decide +kernel
theorem d_tr_queueDue_26 : decode b_tr_queueDue 26 = .ok (.iaload, 1) := by decide +kernel
theorem d_tr_queueDue_27 : decode b_tr_queueDue 27 = .ok (.ifCond .ne 20, 3) := by decide +kernel
theorem d_tr_queueDue_30 : decode b_tr_queueDue 30 = .ok (.aload_n 0, 1) := by decide +kernel
theorem d_tr_queueDue_31 : decode b_tr_queueDue 31 = .ok (.getfield 33, 3) := by decide +kernel
theorem d_tr_queueDue_34 : decode b_tr_queueDue 34 = .ok (.getfield 174, 3) := by decide +kernel
theorem d_tr_queueDue_37 : decode b_tr_queueDue 37 = .ok (.iload_n 3, 1) := by decide +kernel
theorem d_tr_queueDue_38 : decode b_tr_queueDue 38 = .ok (.iaload, 1) := by decide +kernel
theorem d_tr_queueDue_39 : decode b_tr_queueDue 39 = .ok (.iload_n 1, 1) := by decide +kernel
theorem d_tr_queueDue_40 : decode b_tr_queueDue 40 = .ok (.if_icmp .ne 7, 3) := by decide +kernel
theorem d_tr_queueDue_43 : decode b_tr_queueDue 43 = .ok (.iconst 1, 1) := by decide +kernel
theorem d_tr_queueDue_44 : decode b_tr_queueDue 44 = .ok (.goto 4, 3) := by decide +kernel
theorem d_tr_queueDue_47 : decode b_tr_queueDue 47 = .ok (.iconst 0, 1) := by decide +kernel
theorem d_tr_queueDue_48 : decode b_tr_queueDue 48 = .ok (.istore 4, 2) := by decide +kernel
theorem d_tr_queueDue_50 : decode b_tr_queueDue 50 = .ok (.iload 4, 2) := by decide +kernel
theorem d_tr_queueDue_52 : decode b_tr_queueDue 52 = .ok (.ifCond .eq 21, 3) := by decide +kernel
theorem d_tr_queueDue_55 : decode b_tr_queueDue 55 = .ok (.aload_n 0, 1) := by decide +kernel
theorem d_tr_queueDue_56 : decode b_tr_queueDue 56 = .ok (.getfield 33, 3) := by decide +kernel
theorem d_tr_queueDue_59 : decode b_tr_queueDue 59 = .ok (.getfield 171, 3) := by decide +kernel
theorem d_tr_queueDue_62 : decode b_tr_queueDue 62 = .ok (.iload_n 3, 1) := by decide +kernel
theorem d_tr_queueDue_63 : decode b_tr_queueDue 63 = .ok (.iaload, 1) := by decide +kernel
theorem d_tr_queueDue_64 : decode b_tr_queueDue 64 = .ok (.iload_n 2, 1) := by decide +kernel
theorem d_tr_queueDue_65 : decode b_tr_queueDue 65 = .ok (.if_icmp .gt 8, 3) := by decide +kernel
theorem d_tr_queueDue_68 : decode b_tr_queueDue 68 = .ok (.aload_n 0, 1) := by decide +kernel
theorem d_tr_queueDue_69 : decode b_tr_queueDue 69 = .ok (.iload_n 3, 1) := by decide +kernel
theorem d_tr_queueDue_70 : decode b_tr_queueDue 70 = .ok (.invokevirtual 215, 3) := by decide +kernel
theorem d_tr_queueDue_73 : decode b_tr_queueDue 73 = .ok (.iinc 3 1, 3) := by decide +kernel
theorem d_tr_queueDue_76 : decode b_tr_queueDue 76 = .ok (.goto (-69), 3) := by decide +kernel
theorem d_tr_queueDue_79 : decode b_tr_queueDue 79 = .ok (.return_, 1) := by decide +kernel
theorem d_tr_takeFromQueue_0 : decode b_tr_takeFromQueue 0 = .ok (.iconst 0, 1) := by decide +kernel
theorem d_tr_takeFromQueue_1 : decode b_tr_takeFromQueue 1 = .ok (.istore_n 3, 1) := by decide +kernel
theorem d_tr_takeFromQueue_2 : decode b_tr_takeFromQueue 2 = .ok (.iload_n 3, 1) := by decide +kernel
theorem d_tr_takeFromQueue_3 : decode b_tr_takeFromQueue 3 = .ok (.iload_n 1, 1) := by decide +kernel
theorem d_tr_takeFromQueue_4 : decode b_tr_takeFromQueue 4 = .ok (.if_icmp .ge 48, 3) := by decide +kernel
theorem d_tr_takeFromQueue_7 : decode b_tr_takeFromQueue 7 = .ok (.aload_n 0, 1) := by decide +kernel
theorem d_tr_takeFromQueue_8 : decode b_tr_takeFromQueue 8 = .ok (.getfield 51, 3) := by decide +kernel
theorem d_tr_takeFromQueue_11 : decode b_tr_takeFromQueue 11 = .ok (.iload_n 3, 1) := by decide +kernel
theorem d_tr_takeFromQueue_12 : decode b_tr_takeFromQueue 12 = .ok (.iaload, 1) := by decide +kernel
theorem d_tr_takeFromQueue_13 : decode b_tr_takeFromQueue 13 = .ok (.istore 4, 2) := by decide +kernel
theorem d_tr_takeFromQueue_15 : decode b_tr_takeFromQueue 15 = .ok (.aload_n 0, 1) := by decide +kernel
theorem d_tr_takeFromQueue_16 : decode b_tr_takeFromQueue 16 = .ok (.getfield 33, 3) := by decide +kernel
theorem d_tr_takeFromQueue_19 : decode b_tr_takeFromQueue 19 = .ok (.getfield 121, 3) := by decide +kernel
theorem d_tr_takeFromQueue_22 : decode b_tr_takeFromQueue 22 = .ok (.iload 4, 2) := by decide +kernel
theorem d_tr_takeFromQueue_24 : decode b_tr_takeFromQueue 24 = .ok (.iconst 1, 1) := by decide +kernel
theorem d_tr_takeFromQueue_25 : decode b_tr_takeFromQueue 25 = .ok (.iastore, 1) := by decide +kernel
theorem d_tr_takeFromQueue_26 : decode b_tr_takeFromQueue 26 = .ok (.aload_n 0, 1) := by decide +kernel
theorem d_tr_takeFromQueue_27 : decode b_tr_takeFromQueue 27 = .ok (.getfield 33, 3) := by decide +kernel
theorem d_tr_takeFromQueue_30 : decode b_tr_takeFromQueue 30 = .ok (.getfield 171, 3) := by decide +kernel
theorem d_tr_takeFromQueue_33 : decode b_tr_takeFromQueue 33 = .ok (.iload 4, 2) := by decide +kernel
theorem d_tr_takeFromQueue_35 : decode b_tr_takeFromQueue 35 = .ok (.iload_n 2, 1) := by decide +kernel
theorem d_tr_takeFromQueue_36 : decode b_tr_takeFromQueue 36 = .ok (.iastore, 1) := by decide +kernel
theorem d_tr_takeFromQueue_37 : decode b_tr_takeFromQueue 37 = .ok (.aload_n 0, 1) := by decide +kernel
theorem d_tr_takeFromQueue_38 : decode b_tr_takeFromQueue 38 = .ok (.getfield 40, 3) := by decide +kernel
theorem d_tr_takeFromQueue_41 : decode b_tr_takeFromQueue 41 = .ok (.iload 4, 2) := by decide +kernel
theorem d_tr_takeFromQueue_43 : decode b_tr_takeFromQueue 43 = .ok (.invokevirtual 222, 3) := by decide +kernel
theorem d_tr_takeFromQueue_46 : decode b_tr_takeFromQueue 46 = .ok (.iinc 3 1, 3) := by decide +kernel
theorem d_tr_takeFromQueue_49 : decode b_tr_takeFromQueue 49 = .ok (.goto (-47), 3) := by decide +kernel
theorem d_tr_takeFromQueue_52 : decode b_tr_takeFromQueue 52 = .ok (.return_, 1) := by decide +kernel
theorem d_tr_tellQueue_0 : decode b_tr_tellQueue 0 = .ok (.iload_n 1, 1) := by decide +kernel
theorem d_tr_tellQueue_1 : decode b_tr_tellQueue 1 = .ok (.istore_n 3, 1) := by decide +kernel
theorem d_tr_tellQueue_2 : decode b_tr_tellQueue 2 = .ok (.iload_n 3, 1) := by decide +kernel
theorem d_tr_tellQueue_3 : decode b_tr_tellQueue 3 = .ok (.aload_n 0, 1) := by decide +kernel
theorem d_tr_tellQueue_4 : decode b_tr_tellQueue 4 = .ok (.getfield 55, 3) := by decide +kernel
theorem d_tr_tellQueue_7 : decode b_tr_tellQueue 7 = .ok (.if_icmp .ge 23, 3) := by decide +kernel
theorem d_tr_tellQueue_10 : decode b_tr_tellQueue 10 = .ok (.aload_n 0, 1) := by decide +kernel
theorem d_tr_tellQueue_11 : decode b_tr_tellQueue 11 = .ok (.getfield 47, 3) := by decide +kernel
theorem d_tr_tellQueue_14 : decode b_tr_tellQueue 14 = .ok (.iload_n 2, 1) := by decide +kernel
theorem d_tr_tellQueue_15 : decode b_tr_tellQueue 15 = .ok (.aload_n 0, 1) := by decide +kernel
theorem d_tr_tellQueue_16 : decode b_tr_tellQueue 16 = .ok (.getfield 51, 3) := by decide +kernel
theorem d_tr_tellQueue_19 : decode b_tr_tellQueue 19 = .ok (.iload_n 3, 1) := by decide +kernel
theorem d_tr_tellQueue_20 : decode b_tr_tellQueue 20 = .ok (.iaload, 1) := by decide +kernel
theorem d_tr_tellQueue_21 : decode b_tr_tellQueue 21 = .ok (.invokevirtual 225, 3) := by decide +kernel
theorem d_tr_tellQueue_24 : decode b_tr_tellQueue 24 = .ok (.iinc 3 1, 3) := by decide +kernel
theorem d_tr_tellQueue_27 : decode b_tr_tellQueue 27 = .ok (.goto (-25), 3) := by decide +kernel
theorem d_tr_tellQueue_30 : decode b_tr_tellQueue 30 = .ok (.return_, 1) := by decide +kernel
theorem d_tr_loaded_0 : decode b_tr_loaded 0 = .ok (.aload_n 0, 1) := by decide +kernel
theorem d_tr_loaded_1 : decode b_tr_loaded 1 = .ok (.getfield 40, 3) := by decide +kernel
theorem d_tr_loaded_4 : decode b_tr_loaded 4 = .ok (.iload_n 1, 1) := by decide +kernel
theorem d_tr_loaded_5 : decode b_tr_loaded 5 = .ok (.invokevirtual 161, 3) := by decide +kernel
theorem d_tr_loaded_8 : decode b_tr_loaded 8 = .ok (.ifCond .eq 19, 3) := by decide +kernel
theorem d_tr_loaded_11 : decode b_tr_loaded 11 = .ok (.iload_n 2, 1) := by decide +kernel
theorem d_tr_loaded_12 : decode b_tr_loaded 12 = .ok (.ifCond .lt 15, 3) := by decide +kernel
theorem d_tr_loaded_15 : decode b_tr_loaded 15 = .ok (.iload_n 2, 1) := by decide +kernel
theorem d_tr_loaded_16 : decode b_tr_loaded 16 = .ok (.aload_n 0, 1) := by decide +kernel
theorem d_tr_loaded_17 : decode b_tr_loaded 17 = .ok (.getfield 40, 3) := by decide +kernel
theorem d_tr_loaded_20 : decode b_tr_loaded 20 = .ok (.iload_n 1, 1) := by decide +kernel
theorem d_tr_loaded_21 : decode b_tr_loaded 21 = .ok (.invokevirtual 162, 3) := by decide +kernel
theorem d_tr_loaded_24 : decode b_tr_loaded 24 = .ok (.if_icmp .lt 5, 3) := by decide +kernel
theorem d_tr_loaded_27 : decode b_tr_loaded 27 = .ok (.iconst 0, 1) := by decide +kernel
theorem d_tr_loaded_28 : decode b_tr_loaded 28 = .ok (.ireturn, 1) := by decide +kernel
theorem d_tr_loaded_29 : decode b_tr_loaded 29 = .ok (.aload_n 0, 1) := by decide +kernel
theorem d_tr_loaded_30 : decode b_tr_loaded 30 = .ok (.getfield 40, 3) := by decide +kernel
theorem d_tr_loaded_33 : decode b_tr_loaded 33 = .ok (.iload_n 1, 1) := by decide +kernel
theorem d_tr_loaded_34 : decode b_tr_loaded 34 = .ok (.iload_n 2, 1) := by decide +kernel
theorem d_tr_loaded_35 : decode b_tr_loaded 35 = .ok (.invokevirtual 165, 3) := by decide +kernel
theorem d_tr_loaded_38 : decode b_tr_loaded 38 = .ok (.ireturn, 1) := by decide +kernel
theorem d_tr_missing_0 : decode b_tr_missing 0 = .ok (.aload_n 0, 1) := by decide +kernel
theorem d_tr_missing_1 : decode b_tr_missing 1 = .ok (.getfield 40, 3) := by decide +kernel
theorem d_tr_missing_4 : decode b_tr_missing 4 = .ok (.iload_n 1, 1) := by decide +kernel
theorem d_tr_missing_5 : decode b_tr_missing 5 = .ok (.invokevirtual 161, 3) := by decide +kernel
theorem d_tr_missing_8 : decode b_tr_missing 8 = .ok (.ifCond .eq 7, 3) := by decide +kernel
theorem d_tr_missing_11 : decode b_tr_missing 11 = .ok (.iload_n 2, 1) := by decide +kernel
theorem d_tr_missing_12 : decode b_tr_missing 12 = .ok (.ifCond .ge 5, 3) := by decide +kernel
theorem d_tr_missing_15 : decode b_tr_missing 15 = .ok (.iconst 0, 1) := by decide +kernel
theorem d_tr_missing_16 : decode b_tr_missing 16 = .ok (.ireturn, 1) := by decide +kernel
theorem d_tr_missing_17 : decode b_tr_missing 17 = .ok (.iconst 0, 1) := by decide +kernel
theorem d_tr_missing_18 : decode b_tr_missing 18 = .ok (.istore_n 3, 1) := by decide +kernel
theorem d_tr_missing_19 : decode b_tr_missing 19 = .ok (.iconst 0, 1) := by decide +kernel
theorem d_tr_missing_20 : decode b_tr_missing 20 = .ok (.istore 4, 2) := by decide +kernel
theorem d_tr_missing_22 : decode b_tr_missing 22 = .ok (.iload 4, 2) := by decide +kernel
theorem d_tr_missing_24 : decode b_tr_missing 24 = .ok (.aload_n 0, 1) := by decide +kernel
theorem d_tr_missing_25 : decode b_tr_missing 25 = .ok (.getfield 40, 3) := by decide +kernel
theorem d_tr_missing_28 : decode b_tr_missing 28 = .ok (.iload_n 1, 1) := by decide +kernel
theorem d_tr_missing_29 : decode b_tr_missing 29 = .ok (.invokevirtual 162, 3) := by decide +kernel
theorem d_tr_missing_32 : decode b_tr_missing 32 = .ok (.if_icmp .ge 44, 3) := by decide +kernel
theorem d_tr_missing_35 : decode b_tr_missing 35 = .ok (.aload_n 0, 1) := by decide +kernel
theorem d_tr_missing_36 : decode b_tr_missing 36 = .ok (.getfield 40, 3) := by decide +kernel
theorem d_tr_missing_39 : decode b_tr_missing 39 = .ok (.iload_n 1, 1) := by decide +kernel
theorem d_tr_missing_40 : decode b_tr_missing 40 = .ok (.iload 4, 2) := by decide +kernel
theorem d_tr_missing_42 : decode b_tr_missing 42 = .ok (.invokevirtual 165, 3) := by decide +kernel
theorem d_tr_missing_45 : decode b_tr_missing 45 = .ok (.istore 5, 2) := by decide +kernel
theorem d_tr_missing_47 : decode b_tr_missing 47 = .ok (.aload_n 0, 1) := by decide +kernel
theorem d_tr_missing_48 : decode b_tr_missing 48 = .ok (.getfield 33, 3) := by decide +kernel
theorem d_tr_missing_51 : decode b_tr_missing 51 = .ok (.iload 5, 2) := by decide +kernel
theorem d_tr_missing_53 : decode b_tr_missing 53 = .ok (.invokevirtual 168, 3) := by decide +kernel
theorem d_tr_missing_56 : decode b_tr_missing 56 = .ok (.ifCond .eq 14, 3) := by decide +kernel
theorem d_tr_missing_59 : decode b_tr_missing 59 = .ok (.iload_n 3, 1) := by decide +kernel
theorem d_tr_missing_60 : decode b_tr_missing 60 = .ok (.iload_n 2, 1) := by decide +kernel
theorem d_tr_missing_61 : decode b_tr_missing 61 = .ok (.if_icmp .ne 6, 3) := by decide +kernel
theorem d_tr_missing_64 : decode b_tr_missing 64 = .ok (.iload 5, 2) := by decide +kernel
theorem d_tr_missing_66 : decode b_tr_missing 66 = .ok (.ireturn, 1) := by decide +kernel
theorem d_tr_missing_67 : decode b_tr_missing 67 = .ok (.iinc 3 1, 3) := by decide +kernel
theorem d_tr_missing_70 : decode b_tr_missing 70 = .ok (.iinc 4 1, 3) := by decide +kernel
theorem d_tr_missing_73 : decode b_tr_missing 73 = .ok (.goto (-51), 3) := by decide +kernel
theorem d_tr_missing_76 : decode b_tr_missing 76 = .ok (.iconst 0, 1) := by decide +kernel
theorem d_tr_missing_77 : decode b_tr_missing 77 = .ok (.ireturn, 1) := by decide +kernel
theorem d_tr_arrive_0 : decode b_tr_arrive 0 = .ok (.aload_n 0, 1) := by decide +kernel
theorem d_tr_arrive_1 : decode b_tr_arrive 1 = .ok (.getfield 33, 3) := by decide +kernel
theorem d_tr_arrive_4 : decode b_tr_arrive 4 = .ok (.iload_n 1, 1) := by decide +kernel
theorem d_tr_arrive_5 : decode b_tr_arrive 5 = .ok (.invokevirtual 120, 3) := by decide +kernel
theorem d_tr_arrive_8 : decode b_tr_arrive 8 = .ok (.ifCond .eq 21, 3) := by decide +kernel
theorem d_tr_arrive_11 : decode b_tr_arrive 11 = .ok (.aload_n 0, 1) := by decide +kernel
theorem d_tr_arrive_12 : decode b_tr_arrive 12 = .ok (.getfield 10, 3) := by decide +kernel
theorem d_tr_arrive_15 : decode b_tr_arrive 15 = .ok (.iload_n 2, 1) := by decide +kernel
theorem d_tr_arrive_16 : decode b_tr_arrive 16 = .ok (.invokevirtual 63, 3) := by decide +kernel
theorem d_tr_arrive_19 : decode b_tr_arrive 19 = .ok (.ifCond .eq 10, 3) := by decide +kernel
theorem d_tr_arrive_22 : decode b_tr_arrive 22 = .ok (.iload_n 3, 1) := by decide +kernel
theorem d_tr_arrive_23 : decode b_tr_arrive 23 = .ok (.invokestatic 75, 3) := by decide +kernel
theorem d_tr_arrive_26 : decode b_tr_arrive 26 = .ok (.ifCond .ne 5, 3) := by decide +kernel
theorem d_tr_arrive_29 : decode b_tr_arrive 29 = .ok (.iconst 0, 1) := by decide +kernel
theorem d_tr_arrive_30 : decode b_tr_arrive 30 = .ok (.ireturn, 1) := by decide +kernel
theorem d_tr_arrive_31 : decode b_tr_arrive 31 = .ok (.aload_n 0, 1) := by decide +kernel
theorem d_tr_arrive_32 : decode b_tr_arrive 32 = .ok (.getfield 33, 3) := by decide +kernel
theorem d_tr_arrive_35 : decode b_tr_arrive 35 = .ok (.iload_n 1, 1) := by decide +kernel
theorem d_tr_arrive_36 : decode b_tr_arrive 36 = .ok (.invokevirtual 168, 3) := by decide +kernel
theorem d_tr_arrive_39 : decode b_tr_arrive 39 = .ok (.ifCond .eq 16, 3) := by decide +kernel
theorem d_tr_arrive_42 : decode b_tr_arrive 42 = .ok (.iload_n 3, 1) := by decide +kernel
theorem d_tr_arrive_43 : decode b_tr_arrive 43 = .ok (.aload_n 0, 1) := by decide +kernel
theorem d_tr_arrive_44 : decode b_tr_arrive 44 = .ok (.getfield 33, 3) := by decide +kernel
theorem d_tr_arrive_47 : decode b_tr_arrive 47 = .ok (.getfield 171, 3) := by decide +kernel
theorem d_tr_arrive_50 : decode b_tr_arrive 50 = .ok (.iload_n 1, 1) := by decide +kernel
theorem d_tr_arrive_51 : decode b_tr_arrive 51 = .ok (.iaload, 1) := by decide +kernel
theorem d_tr_arrive_52 : decode b_tr_arrive 52 = .ok (.if_icmp .ge 5, 3) := by decide +kernel
theorem d_tr_arrive_55 : decode b_tr_arrive 55 = .ok (.iconst 0, 1) := by decide +kernel
theorem d_tr_arrive_56 : decode b_tr_arrive 56 = .ok (.ireturn, 1) := by decide +kernel
theorem d_tr_arrive_57 : decode b_tr_arrive 57 = .ok (.aload_n 0, 1) := by decide +kernel
theorem d_tr_arrive_58 : decode b_tr_arrive 58 = .ok (.getfield 33, 3) := by decide +kernel
theorem d_tr_arrive_61 : decode b_tr_arrive 61 = .ok (.getfield 124, 3) := by decide +kernel
theorem d_tr_arrive_64 : decode b_tr_arrive 64 = .ok (.iload_n 1, 1) := by decide +kernel
theorem d_tr_arrive_65 : decode b_tr_arrive 65 = .ok (.iaload, 1) := by decide +kernel
theorem d_tr_arrive_66 : decode b_tr_arrive 66 = .ok (.istore 4, 2) := by decide +kernel
theorem d_tr_arrive_68 : decode b_tr_arrive 68 = .ok (.aload_n 0, 1) := by decide +kernel
theorem d_tr_arrive_69 : decode b_tr_arrive 69 = .ok (.getfield 19, 3) := by decide +kernel
theorem d_tr_arrive_72 : decode b_tr_arrive 72 = .ok (.getfield 144, 3) := by decide +kernel
theorem d_tr_arrive_75 : decode b_tr_arrive 75 = .ok (.aload_n 0, 1) := by decide +kernel
theorem d_tr_arrive_76 : decode b_tr_arrive 76 = .ok (.getfield 33, 3) := by decide +kernel
theorem d_tr_arrive_79 : decode b_tr_arrive 79 = .ok (.getfield 174, 3) := by decide +kernel
theorem d_tr_arrive_82 : decode b_tr_arrive 82 = .ok (.iload_n 1, 1) := by decide +kernel
theorem d_tr_arrive_83 : decode b_tr_arrive 83 = .ok (.iaload, 1) := by decide +kernel
theorem d_tr_arrive_84 : decode b_tr_arrive 84 = .ok (.iaload, 1) := by decide +kernel
theorem d_tr_arrive_85 : decode b_tr_arrive 85 = .ok (.iload_n 2, 1) := by decide +kernel
theorem d_tr_arrive_86 : decode b_tr_arrive 86 = .ok (.if_icmp .ne 7, 3) := by decide +kernel
theorem d_tr_arrive_89 : decode b_tr_arrive 89 = .ok (.iconst 1, 1) := by decide +kernel
theorem d_tr_arrive_90 : decode b_tr_arrive 90 = .ok (.goto 4, 3) := by decide +kernel
theorem d_tr_arrive_93 : decode b_tr_arrive 93 = .ok (.iconst 0, 1) := by decide +kernel
theorem d_tr_arrive_94 : decode b_tr_arrive 94 = .ok (.istore 5, 2) := by decide +kernel
theorem d_tr_arrive_96 : decode b_tr_arrive 96 = .ok (.aload_n 0, 1) := by decide +kernel
theorem d_tr_arrive_97 : decode b_tr_arrive 97 = .ok (.getfield 33, 3) := by decide +kernel
theorem d_tr_arrive_100 : decode b_tr_arrive 100 = .ok (.getfield 121, 3) := by decide +kernel
theorem d_tr_arrive_103 : decode b_tr_arrive 103 = .ok (.iload_n 1, 1) := by decide +kernel
theorem d_tr_arrive_104 : decode b_tr_arrive 104 = .ok (.iload 5, 2) := by decide +kernel
theorem d_tr_arrive_106 : decode b_tr_arrive 106 = .ok (.ifCond .eq 7, 3) := by decide +kernel
theorem d_tr_arrive_109 : decode b_tr_arrive 109 = .ok (.iconst 2, 1) := by decide +kernel
theorem d_tr_arrive_110 : decode b_tr_arrive 110 = .ok (.goto 4, 3) := by decide +kernel
theorem d_tr_arrive_113 : decode b_tr_arrive 113 = .ok (.iconst 4, 1) := by decide +kernel
theorem d_tr_arrive_114 : decode b_tr_arrive 114 = .ok (.iastore, 1) := by decide +kernel
theorem d_tr_arrive_115 : decode b_tr_arrive 115 = .ok (.aload_n 0, 1) := by decide +kernel
theorem d_tr_arrive_116 : decode b_tr_arrive 116 = .ok (.getfield 33, 3) := by decide +kernel
theorem d_tr_arrive_119 : decode b_tr_arrive 119 = .ok (.getfield 177, 3) := by decide +kernel
theorem d_tr_arrive_122 : decode b_tr_arrive 122 = .ok (.iload_n 1, 1) := by decide +kernel
theorem d_tr_arrive_123 : decode b_tr_arrive 123 = .ok (.iload_n 3, 1) := by decide +kernel
theorem d_tr_arrive_124 : decode b_tr_arrive 124 = .ok (.iastore, 1) := by decide +kernel
theorem d_tr_arrive_125 : decode b_tr_arrive 125 = .ok (.aload_n 0, 1) := by decide +kernel
theorem d_tr_arrive_126 : decode b_tr_arrive 126 = .ok (.getfield 26, 3) := by decide +kernel
theorem d_tr_arrive_129 : decode b_tr_arrive 129 = .ok (.getfield 100, 3) := by decide +kernel
theorem d_tr_arrive_132 : decode b_tr_arrive 132 = .ok (.iload 4, 2) := by decide +kernel
theorem d_tr_arrive_134 : decode b_tr_arrive 134 = .ok (.iconst 0, 1) := by decide +kernel
theorem d_tr_arrive_135 : decode b_tr_arrive 135 = .ok (.iastore, 1) := by decide +kernel
theorem d_tr_arrive_136 : decode b_tr_arrive 136 = .ok (.aload_n 0, 1) := by decide +kernel
theorem d_tr_arrive_137 : decode b_tr_arrive 137 = .ok (.getfield 26, 3) := by decide +kernel
theorem d_tr_arrive_140 : decode b_tr_arrive 140 = .ok (.getfield 103, 3) := by decide +kernel
theorem d_tr_arrive_143 : decode b_tr_arrive 143 = .ok (.iload 4, 2) := by decide +kernel
theorem d_tr_arrive_145 : decode b_tr_arrive 145 = .ok (.iload_n 2, 1) := by decide +kernel
theorem d_tr_arrive_146 : decode b_tr_arrive 146 = .ok (.iastore, 1) := by decide +kernel
theorem d_tr_arrive_147 : decode b_tr_arrive 147 = .ok (.iload 5, 2) := by decide +kernel
theorem d_tr_arrive_149 : decode b_tr_arrive 149 = .ok (.ifCond .eq 27, 3) := by decide +kernel
theorem d_tr_arrive_152 : decode b_tr_arrive 152 = .ok (.aload_n 0, 1) := by decide +kernel
theorem d_tr_arrive_153 : decode b_tr_arrive 153 = .ok (.getfield 26, 3) := by decide +kernel
theorem d_tr_arrive_156 : decode b_tr_arrive 156 = .ok (.getfield 97, 3) := by decide +kernel
theorem d_tr_arrive_159 : decode b_tr_arrive 159 = .ok (.iload 4, 2) := by decide +kernel
theorem d_tr_arrive_161 : decode b_tr_arrive 161 = .ok (.baload, 1) := by decide +kernel
theorem d_tr_arrive_162 : decode b_tr_arrive 162 = .ok (.ifCond .eq 14, 3) := by decide +kernel
theorem d_tr_arrive_165 : decode b_tr_arrive 165 = .ok (.aload_n 0, 1) := by decide +kernel
theorem d_tr_arrive_166 : decode b_tr_arrive 166 = .ok (.getfield 26, 3) := by decide +kernel
theorem d_tr_arrive_169 : decode b_tr_arrive 169 = .ok (.getfield 180, 3) := by decide +kernel
theorem d_tr_arrive_172 : decode b_tr_arrive 172 = .ok (.iload 4, 2) := by decide +kernel
theorem d_tr_arrive_174 : decode b_tr_arrive 174 = .ok (.iload_n 2, 1) := by decide +kernel
theorem d_tr_arrive_175 : decode b_tr_arrive 175 = .ok (.iastore, 1) := by decide +kernel
theorem d_tr_arrive_176 : decode b_tr_arrive 176 = .ok (.iload 5, 2) := by decide +kernel
theorem d_tr_arrive_178 : decode b_tr_arrive 178 = .ok (.ifCond .eq 7, 3) := by decide +kernel
theorem d_tr_arrive_181 : decode b_tr_arrive 181 = .ok (.iconst 1, 1) := by decide +kernel
theorem d_tr_arrive_182 : decode b_tr_arrive 182 = .ok (.goto 4, 3) := by decide +kernel
theorem d_tr_arrive_185 : decode b_tr_arrive 185 = .ok (.iconst (-1), 1) := by decide +kernel
theorem d_tr_arrive_186 : decode b_tr_arrive 186 = .ok (.ireturn, 1) := by decide +kernel
theorem d_tr_lost_0 : decode b_tr_lost 0 = .ok (.iload_n 1, 1) := by decide +kernel
theorem d_tr_lost_1 : decode b_tr_lost 1 = .ok (.invokestatic 75, 3) := by decide +kernel
theorem d_tr_lost_4 : decode b_tr_lost 4 = .ok (.ifCond .ne 5, 3) := by decide +kernel
theorem d_tr_lost_7 : decode b_tr_lost 7 = .ok (.iconst (-1), 1) := by decide +kernel
theorem d_tr_lost_8 : decode b_tr_lost 8 = .ok (.ireturn, 1) := by decide +kernel
theorem d_tr_lost_9 : decode b_tr_lost 9 = .ok (.iconst 0, 1) := by decide +kernel
theorem d_tr_lost_10 : decode b_tr_lost 10 = .ok (.istore_n 2, 1) := by decide +kernel
theorem d_tr_lost_11 : decode b_tr_lost 11 = .ok (.iconst 1, 1) := by decide +kernel
theorem d_tr_lost_12 : decode b_tr_lost 12 = .ok (.istore_n 3, 1) := by decide +kernel
theorem d_tr_lost_13 : decode b_tr_lost 13 = .ok (.iload_n 3, 1) := by decide +kernel
theorem d_tr_lost_14 : decode b_tr_lost 14 = .ok (.aload_n 0, 1) := by decide +kernel
theorem d_tr_lost_15 : decode b_tr_lost 15 = .ok (.getfield 33, 3) := by decide +kernel
theorem d_tr_lost_18 : decode b_tr_lost 18 = .ok (.getfield 106, 3) := by decide +kernel
theorem d_tr_lost_21 : decode b_tr_lost 21 = .ok (.if_icmp .gt 47, 3) := by decide +kernel
theorem d_tr_lost_24 : decode b_tr_lost 24 = .ok (.aload_n 0, 1) := by decide +kernel
theorem d_tr_lost_25 : decode b_tr_lost 25 = .ok (.getfield 33, 3) := by decide +kernel
theorem d_tr_lost_28 : decode b_tr_lost 28 = .ok (.getfield 121, 3) := by decide +kernel
theorem d_tr_lost_31 : decode b_tr_lost 31 = .ok (.iload_n 3, 1) := by decide +kernel
theorem d_tr_lost_32 : decode b_tr_lost 32 = .ok (.iaload, 1) := by decide +kernel
theorem d_tr_lost_33 : decode b_tr_lost 33 = .ok (.iconst 1, 1) := by decide +kernel
theorem d_tr_lost_34 : decode b_tr_lost 34 = .ok (.if_icmp .ne 28, 3) := by decide +kernel
theorem d_tr_lost_37 : decode b_tr_lost 37 = .ok (.iload_n 1, 1) := by decide +kernel
theorem d_tr_lost_38 : decode b_tr_lost 38 = .ok (.aload_n 0, 1) := by decide +kernel
theorem d_tr_lost_39 : decode b_tr_lost 39 = .ok (.iload_n 3, 1) := by decide +kernel
theorem d_tr_lost_40 : decode b_tr_lost 40 = .ok (.invokevirtual 183, 3) := by decide +kernel
theorem d_tr_lost_43 : decode b_tr_lost 43 = .ok (.isub, 1) := by decide +kernel
theorem d_tr_lost_44 : decode b_tr_lost 44 = .ok (.bipush 14, 2) := by decide +kernel
theorem d_tr_lost_46 : decode b_tr_lost 46 = .ok (.if_icmp .le 16, 3) := by decide +kernel
theorem d_tr_lost_49 : decode b_tr_lost 49 = .ok (.aload_n 0, 1) := by decide +kernel
theorem d_tr_lost_50 : decode b_tr_lost 50 = .ok (.getfield 33, 3) := by decide +kernel
theorem d_tr_lost_53 : decode b_tr_lost 53 = .ok (.getfield 121, 3) := by decide +kernel
theorem d_tr_lost_56 : decode b_tr_lost 56 = .ok (.iload_n 3, 1) := by decide +kernel
theorem d_tr_lost_57 : decode b_tr_lost 57 = .ok (.iconst 3, 1) := by decide +kernel
theorem d_tr_lost_58 : decode b_tr_lost 58 = .ok (.iastore, 1) := by decide +kernel
theorem d_tr_lost_59 : decode b_tr_lost 59 = .ok (.iinc 2 1, 3) := by decide +kernel
theorem d_tr_lost_62 : decode b_tr_lost 62 = .ok (.iinc 3 1, 3) := by decide +kernel
theorem d_tr_lost_65 : decode b_tr_lost 65 = .ok (.goto (-52), 3) := by decide +kernel
theorem d_tr_lost_68 : decode b_tr_lost 68 = .ok (.iload_n 2, 1) := by decide +kernel
theorem d_tr_lost_69 : decode b_tr_lost 69 = .ok (.ireturn, 1) := by decide +kernel
theorem d_tr_dueDay_0 : decode b_tr_dueDay 0 = .ok (.aload_n 0, 1) := by decide +kernel
theorem d_tr_dueDay_1 : decode b_tr_dueDay 1 = .ok (.getfield 33, 3) := by decide +kernel
theorem d_tr_dueDay_4 : decode b_tr_dueDay 4 = .ok (.getfield 171, 3) := by decide +kernel
theorem d_tr_dueDay_7 : decode b_tr_dueDay 7 = .ok (.iload_n 1, 1) := by decide +kernel
theorem d_tr_dueDay_8 : decode b_tr_dueDay 8 = .ok (.iaload, 1) := by decide +kernel
theorem d_tr_dueDay_9 : decode b_tr_dueDay 9 = .ok (.aload_n 0, 1) := by decide +kernel
theorem d_tr_dueDay_10 : decode b_tr_dueDay 10 = .ok (.getfield 19, 3) := by decide +kernel
theorem d_tr_dueDay_13 : decode b_tr_dueDay 13 = .ok (.getfield 212, 3) := by decide +kernel
theorem d_tr_dueDay_16 : decode b_tr_dueDay 16 = .ok (.aload_n 0, 1) := by decide +kernel
theorem d_tr_dueDay_17 : decode b_tr_dueDay 17 = .ok (.getfield 33, 3) := by decide +kernel
theorem d_tr_dueDay_20 : decode b_tr_dueDay 20 = .ok (.getfield 174, 3) := by decide +kernel
theorem d_tr_dueDay_23 : decode b_tr_dueDay 23 = .ok (.iload_n 1, 1) := by decide +kernel
theorem d_tr_dueDay_24 : decode b_tr_dueDay 24 = .ok (.iaload, 1) := by decide +kernel
theorem d_tr_dueDay_25 : decode b_tr_dueDay 25 = .ok (.iaload, 1) := by decide +kernel
theorem d_tr_dueDay_26 : decode b_tr_dueDay 26 = .ok (.iadd, 1) := by decide +kernel
theorem d_tr_dueDay_27 : decode b_tr_dueDay 27 = .ok (.ireturn, 1) := by decide +kernel
theorem d_tr_slip_0 : decode b_tr_slip 0 = .ok (.aload_n 0, 1) := by decide +kernel
theorem d_tr_slip_1 : decode b_tr_slip 1 = .ok (.getfield 33, 3) := by decide +kernel
theorem d_tr_slip_4 : decode b_tr_slip 4 = .ok (.iload_n 1, 1) := by decide +kernel
theorem d_tr_slip_5 : decode b_tr_slip 5 = .ok (.invokevirtual 120, 3) := by decide +kernel
theorem d_tr_slip_8 : decode b_tr_slip 8 = .ok (.ifCond .ne 5, 3) := by decide +kernel
theorem d_tr_slip_11 : decode b_tr_slip 11 = .ok (.iconst (-1), 1) := by decide +kernel
theorem d_tr_slip_12 : decode b_tr_slip 12 = .ok (.ireturn, 1) := by decide +kernel
theorem d_tr_slip_13 : decode b_tr_slip 13 = .ok (.iload_n 2, 1) := by decide +kernel
theorem d_tr_slip_14 : decode b_tr_slip 14 = .ok (.tableswitch 108 0 6 #[42, 52, 62, 72, 82, 92, 98], 42) := by decide +kernel
theorem d_tr_slip_56 : decode b_tr_slip 56 = .ok (.aload_n 0, 1) := by decide +kernel
theorem d_tr_slip_57 : decode b_tr_slip 57 = .ok (.getfield 33, 3) := by decide +kernel
theorem d_tr_slip_60 : decode b_tr_slip 60 = .ok (.getfield 124, 3) := by decide +kernel
theorem d_tr_slip_63 : decode b_tr_slip 63 = .ok (.iload_n 1, 1) := by decide +kernel
theorem d_tr_slip_64 : decode b_tr_slip 64 = .ok (.iaload, 1) := by decide +kernel
theorem d_tr_slip_65 : decode b_tr_slip 65 = .ok (.ireturn, 1) := by decide +kernel
theorem d_tr_slip_66 : decode b_tr_slip 66 = .ok (.aload_n 0, 1) := by decide +kernel
theorem d_tr_slip_67 : decode b_tr_slip 67 = .ok (.getfield 33, 3) := by decide +kernel
theorem d_tr_slip_70 : decode b_tr_slip 70 = .ok (.getfield 174, 3) := by decide +kernel
theorem d_tr_slip_73 : decode b_tr_slip 73 = .ok (.iload_n 1, 1) := by decide +kernel
theorem d_tr_slip_74 : decode b_tr_slip 74 = .ok (.iaload, 1) := by decide +kernel
theorem d_tr_slip_75 : decode b_tr_slip 75 = .ok (.ireturn, 1) := by decide +kernel
theorem d_tr_slip_76 : decode b_tr_slip 76 = .ok (.aload_n 0, 1) := by decide +kernel
theorem d_tr_slip_77 : decode b_tr_slip 77 = .ok (.getfield 33, 3) := by decide +kernel
theorem d_tr_slip_80 : decode b_tr_slip 80 = .ok (.getfield 121, 3) := by decide +kernel
theorem d_tr_slip_83 : decode b_tr_slip 83 = .ok (.iload_n 1, 1) := by decide +kernel
theorem d_tr_slip_84 : decode b_tr_slip 84 = .ok (.iaload, 1) := by decide +kernel
theorem d_tr_slip_85 : decode b_tr_slip 85 = .ok (.ireturn, 1) := by decide +kernel
theorem d_tr_slip_86 : decode b_tr_slip 86 = .ok (.aload_n 0, 1) := by decide +kernel
theorem d_tr_slip_87 : decode b_tr_slip 87 = .ok (.getfield 33, 3) := by decide +kernel
theorem d_tr_slip_90 : decode b_tr_slip 90 = .ok (.getfield 186, 3) := by decide +kernel
theorem d_tr_slip_93 : decode b_tr_slip 93 = .ok (.iload_n 1, 1) := by decide +kernel
theorem d_tr_slip_94 : decode b_tr_slip 94 = .ok (.iaload, 1) := by decide +kernel
theorem d_tr_slip_95 : decode b_tr_slip 95 = .ok (.ireturn, 1) := by decide +kernel
theorem d_tr_slip_96 : decode b_tr_slip 96 = .ok (.aload_n 0, 1) := by decide +kernel
theorem d_tr_slip_97 : decode b_tr_slip 97 = .ok (.getfield 33, 3) := by decide +kernel
theorem d_tr_slip_100 : decode b_tr_slip 100 = .ok (.getfield 171, 3) := by decide +kernel
theorem d_tr_slip_103 : decode b_tr_slip 103 = .ok (.iload_n 1, 1) := by decide +kernel
theorem d_tr_slip_104 : decode b_tr_slip 104 = .ok (.iaload, 1) := by decide +kernel
theorem d_tr_slip_105 : decode b_tr_slip 105 = .ok (.ireturn, 1) := by decide +kernel
theorem d_tr_slip_106 : decode b_tr_slip 106 = .ok (.aload_n 0, 1) := by decide +kernel
theorem d_tr_slip_107 : decode b_tr_slip 107 = .ok (.iload_n 1, 1) := by decide +kernel
theorem d_tr_slip_108 : decode b_tr_slip 108 = .ok (.invokevirtual 183, 3) := by decide +kernel
theorem d_tr_slip_111 : decode b_tr_slip 111 = .ok (.ireturn, 1) := by decide +kernel
theorem d_tr_slip_112 : decode b_tr_slip 112 = .ok (.aload_n 0, 1) := by decide +kernel
theorem d_tr_slip_113 : decode b_tr_slip 113 = .ok (.getfield 33, 3) := by decide +kernel
theorem d_tr_slip_116 : decode b_tr_slip 116 = .ok (.getfield 177, 3) := by decide +kernel
theorem d_tr_slip_119 : decode b_tr_slip 119 = .ok (.iload_n 1, 1) := by decide +kernel
theorem d_tr_slip_120 : decode b_tr_slip 120 = .ok (.iaload, 1) := by decide +kernel
theorem d_tr_slip_121 : decode b_tr_slip 121 = .ok (.ireturn, 1) := by decide +kernel
theorem d_tr_slip_122 : decode b_tr_slip 122 = .ok (.iconst (-1), 1) := by decide +kernel
theorem d_tr_slip_123 : decode b_tr_slip 123 = .ok (.ireturn, 1) := by decide +kernel
theorem d_tr_where_0 : decode b_tr_where 0 = .ok (.aload_n 0, 1) := by decide +kernel
theorem d_tr_where_1 : decode b_tr_where 1 = .ok (.getfield 26, 3) := by decide +kernel
theorem d_tr_where_4 : decode b_tr_where 4 = .ok (.iload_n 1, 1) := by decide +kernel
theorem d_tr_where_5 : decode b_tr_where 5 = .ok (.invokevirtual 93, 3) := by decide +kernel
theorem d_tr_where_8 : decode b_tr_where 8 = .ok (.ifCond .ne 5, 3) := by decide +kernel
theorem d_tr_where_11 : decode b_tr_where 11 = .ok (.iconst (-1), 1) := by decide +kernel
theorem d_tr_where_12 : decode b_tr_where 12 = .ok (.ireturn, 1) := by decide +kernel
theorem d_tr_where_13 : decode b_tr_where 13 = .ok (.iload_n 2, 1) := by decide +kernel
theorem d_tr_where_14 : decode b_tr_where 14 = .ok (.tableswitch 72 0 2 #[26, 52, 62], 26) := by decide +kernel
theorem d_tr_where_40 : decode b_tr_where 40 = .ok (.aload_n 0, 1) := by decide +kernel
theorem d_tr_where_41 : decode b_tr_where 41 = .ok (.getfield 26, 3) := by decide +kernel
theorem d_tr_where_44 : decode b_tr_where 44 = .ok (.getfield 100, 3) := by decide +kernel
theorem d_tr_where_47 : decode b_tr_where 47 = .ok (.iload_n 1, 1) := by decide +kernel
theorem d_tr_where_48 : decode b_tr_where 48 = .ok (.iaload, 1) := by decide +kernel
theorem d_tr_where_49 : decode b_tr_where 49 = .ok (.ifCond .ne 15, 3) := by decide +kernel
theorem d_tr_where_52 : decode b_tr_where 52 = .ok (.aload_n 0, 1) := by decide +kernel
theorem d_tr_where_53 : decode b_tr_where 53 = .ok (.getfield 26, 3) := by decide +kernel
theorem d_tr_where_56 : decode b_tr_where 56 = .ok (.getfield 103, 3) := by decide +kernel
theorem d_tr_where_59 : decode b_tr_where 59 = .ok (.iload_n 1, 1) := by decide +kernel
theorem d_tr_where_60 : decode b_tr_where 60 = .ok (.iaload, 1) := by decide +kernel
theorem d_tr_where_61 : decode b_tr_where 61 = .ok (.goto 4, 3) := by decide +kernel
theorem d_tr_where_64 : decode b_tr_where 64 = .ok (.iconst (-1), 1) := by decide +kernel
theorem d_tr_where_65 : decode b_tr_where 65 = .ok (.ireturn, 1) := by decide +kernel
theorem d_tr_where_66 : decode b_tr_where 66 = .ok (.aload_n 0, 1) := by decide +kernel
theorem d_tr_where_67 : decode b_tr_where 67 = .ok (.getfield 26, 3) := by decide +kernel
theorem d_tr_where_70 : decode b_tr_where 70 = .ok (.getfield 180, 3) := by decide +kernel
theorem d_tr_where_73 : decode b_tr_where 73 = .ok (.iload_n 1, 1) := by decide +kernel
theorem d_tr_where_74 : decode b_tr_where 74 = .ok (.iaload, 1) := by decide +kernel
theorem d_tr_where_75 : decode b_tr_where 75 = .ok (.ireturn, 1) := by decide +kernel
theorem d_tr_where_76 : decode b_tr_where 76 = .ok (.aload_n 0, 1) := by decide +kernel
theorem d_tr_where_77 : decode b_tr_where 77 = .ok (.getfield 26, 3) := by decide +kernel
theorem d_tr_where_80 : decode b_tr_where 80 = .ok (.getfield 100, 3) := by decide +kernel
theorem d_tr_where_83 : decode b_tr_where 83 = .ok (.iload_n 1, 1) := by decide +kernel
theorem d_tr_where_84 : decode b_tr_where 84 = .ok (.iaload, 1) := by decide +kernel
theorem d_tr_where_85 : decode b_tr_where 85 = .ok (.ireturn, 1) := by decide +kernel
theorem d_tr_where_86 : decode b_tr_where 86 = .ok (.iconst (-1), 1) := by decide +kernel
theorem d_tr_where_87 : decode b_tr_where 87 = .ok (.ireturn, 1) := by decide +kernel
theorem d_tr_told_0 : decode b_tr_told 0 = .ok (.aload_n 0, 1) := by decide +kernel
theorem d_tr_told_1 : decode b_tr_told 1 = .ok (.getfield 47, 3) := by decide +kernel
theorem d_tr_told_4 : decode b_tr_told 4 = .ok (.iload_n 1, 1) := by decide +kernel
theorem d_tr_told_5 : decode b_tr_told 5 = .ok (.invokevirtual 199, 3) := by decide +kernel
theorem d_tr_told_8 : decode b_tr_told 8 = .ok (.ifCond .ne 5, 3) := by decide +kernel
theorem d_tr_told_11 : decode b_tr_told 11 = .ok (.iconst (-1), 1) := by decide +kernel
theorem d_tr_told_12 : decode b_tr_told 12 = .ok (.ireturn, 1) := by decide +kernel
theorem d_tr_told_13 : decode b_tr_told 13 = .ok (.iload_n 2, 1) := by decide +kernel
theorem d_tr_told_14 : decode b_tr_told 14 = .ok (.lookupswitch 46 #[(0, 26), (1, 36)], 26) := by decide +kernel
theorem d_tr_told_40 : decode b_tr_told 40 = .ok (.aload_n 0, 1) := by decide +kernel
theorem d_tr_told_41 : decode b_tr_told 41 = .ok (.getfield 47, 3) := by decide +kernel
theorem d_tr_told_44 : decode b_tr_told 44 = .ok (.getfield 200, 3) := by decide +kernel
theorem d_tr_told_47 : decode b_tr_told 47 = .ok (.iload_n 1, 1) := by decide +kernel
theorem d_tr_told_48 : decode b_tr_told 48 = .ok (.iaload, 1) := by decide +kernel
theorem d_tr_told_49 : decode b_tr_told 49 = .ok (.ireturn, 1) := by decide +kernel
theorem d_tr_told_50 : decode b_tr_told 50 = .ok (.aload_n 0, 1) := by decide +kernel
theorem d_tr_told_51 : decode b_tr_told 51 = .ok (.getfield 47, 3) := by decide +kernel
theorem d_tr_told_54 : decode b_tr_told 54 = .ok (.getfield 203, 3) := by decide +kernel
theorem d_tr_told_57 : decode b_tr_told 57 = .ok (.iload_n 1, 1) := by decide +kernel
theorem d_tr_told_58 : decode b_tr_told 58 = .ok (.iaload, 1) := by decide +kernel
theorem d_tr_told_59 : decode b_tr_told 59 = .ok (.ireturn, 1) := by decide +kernel
theorem d_tr_told_60 : decode b_tr_told 60 = .ok (.iconst (-1), 1) := by decide +kernel
theorem d_tr_told_61 : decode b_tr_told 61 = .ok (.ireturn, 1) := by decide +kernel
theorem d_tr_statistics_0 : decode b_tr_statistics 0 = .ok (.aload_n 0, 1) := by decide +kernel
theorem d_tr_statistics_1 : decode b_tr_statistics 1 = .ok (.getfield 10, 3) := by decide +kernel
theorem d_tr_statistics_4 : decode b_tr_statistics 4 = .ok (.iload_n 1, 1) := by decide +kernel
theorem d_tr_statistics_5 : decode b_tr_statistics 5 = .ok (.invokevirtual 63, 3) := by decide +kernel
theorem d_tr_statistics_8 : decode b_tr_statistics 8 = .ok (.ifCond .eq 14, 3) := by decide +kernel
theorem d_tr_statistics_11 : decode b_tr_statistics 11 = .ok (.aload_n 0, 1) := by decide +kernel
theorem d_tr_statistics_12 : decode b_tr_statistics 12 = .ok (.getfield 10, 3) := by decide +kernel
theorem d_tr_statistics_15 : decode b_tr_statistics 15 = .ok (.iload_n 2, 1) := by decide +kernel
theorem d_tr_statistics_16 : decode b_tr_statistics 16 = .ok (.invokevirtual 63, 3) := by decide +kernel
theorem d_tr_statistics_19 : decode b_tr_statistics 19 = .ok (.ifCond .ne 5, 3) := by decide +kernel
theorem d_tr_statistics_22 : decode b_tr_statistics 22 = .ok (.iconst (-1), 1) := by decide +kernel
theorem d_tr_statistics_23 : decode b_tr_statistics 23 = .ok (.ireturn, 1) := by decide +kernel
theorem d_tr_statistics_24 : decode b_tr_statistics 24 = .ok (.iconst 0, 1) := by decide +kernel
theorem d_tr_statistics_25 : decode b_tr_statistics 25 = .ok (.istore 4, 2) := by decide +kernel
theorem d_tr_statistics_27 : decode b_tr_statistics 27 = .ok (.iconst 0, 1) := by decide +kernel
theorem d_tr_statistics_28 : decode b_tr_statistics 28 = .ok (.istore 5, 2) := by decide +kernel
theorem d_tr_statistics_30 : decode b_tr_statistics 30 = .ok (.iconst (-1), 1) := by decide +kernel
theorem d_tr_statistics_31 : decode b_tr_statistics 31 = .ok (.istore 6, 2) := by decide +kernel
theorem d_tr_statistics_33 : decode b_tr_statistics 33 = .ok (.iconst 1, 1) := by decide +kernel
theorem d_tr_statistics_34 : decode b_tr_statistics 34 = .ok (.istore 7, 2) := by decide +kernel
theorem d_tr_statistics_36 : decode b_tr_statistics 36 = .ok (.iload 7, 2) := by decide +kernel
theorem d_tr_statistics_38 : decode b_tr_statistics 38 = .ok (.aload_n 0, 1) := by decide +kernel
theorem d_tr_statistics_39 : decode b_tr_statistics 39 = .ok (.getfield 33, 3) := by decide +kernel
theorem d_tr_statistics_42 : decode b_tr_statistics 42 = .ok (.getfield 106, 3) := by decide +kernel
theorem d_tr_statistics_45 : decode b_tr_statistics 45 = .ok (.if_icmp .gt 87, 3) := by decide +kernel
theorem d_tr_statistics_48 : decode b_tr_statistics 48 = .ok (.aload_n 0, 1) := by decide +kernel
theorem d_tr_statistics_49 : decode b_tr_statistics 49 = .ok (.getfield 33, 3) := by decide +kernel
theorem d_tr_statistics_52 : decode b_tr_statistics 52 = .ok (.getfield 121, 3) := by decide +kernel
theorem d_tr_statistics_55 : decode b_tr_statistics 55 = .ok (.iload 7, 2) := by decide +kernel
theorem d_tr_statistics_57 : decode b_tr_statistics 57 = .ok (.iaload, 1) := by decide +kernel
theorem d_tr_statistics_58 : decode b_tr_statistics 58 = .ok (.iconst 2, 1) := by decide +kernel
theorem d_tr_statistics_59 : decode b_tr_statistics 59 = .ok (.if_icmp .ne 67, 3) := by decide +kernel
theorem d_tr_statistics_62 : decode b_tr_statistics 62 = .ok (.aload_n 0, 1) := by decide +kernel
theorem d_tr_statistics_63 : decode b_tr_statistics 63 = .ok (.getfield 19, 3) := by decide +kernel
theorem d_tr_statistics_66 : decode b_tr_statistics 66 = .ok (.aload_n 0, 1) := by decide +kernel
theorem d_tr_statistics_67 : decode b_tr_statistics 67 = .ok (.getfield 33, 3) := by decide +kernel
theorem d_tr_statistics_70 : decode b_tr_statistics 70 = .ok (.getfield 174, 3) := by decide +kernel
theorem d_tr_statistics_73 : decode b_tr_statistics 73 = .ok (.iload 7, 2) := by decide +kernel
theorem d_tr_statistics_75 : decode b_tr_statistics 75 = .ok (.iaload, 1) := by decide +kernel
theorem d_tr_statistics_76 : decode b_tr_statistics 76 = .ok (.iload_n 1, 1) := by decide +kernel
theorem d_tr_statistics_77 : decode b_tr_statistics 77 = .ok (.iload_n 2, 1) := by decide +kernel
theorem d_tr_statistics_78 : decode b_tr_statistics 78 = .ok (.invokevirtual 189, 3) := by decide +kernel
theorem d_tr_statistics_81 : decode b_tr_statistics 81 = .ok (.ifCond .eq 45, 3) := by decide +kernel
theorem d_tr_statistics_84 : decode b_tr_statistics 84 = .ok (.aload_n 0, 1) := by decide +kernel
theorem d_tr_statistics_85 : decode b_tr_statistics 85 = .ok (.getfield 33, 3) := by decide +kernel
theorem d_tr_statistics_88 : decode b_tr_statistics 88 = .ok (.getfield 177, 3) := by decide +kernel
theorem d_tr_statistics_91 : decode b_tr_statistics 91 = .ok (.iload 7, 2) := by decide +kernel
theorem d_tr_statistics_93 : decode b_tr_statistics 93 = .ok (.iaload, 1) := by decide +kernel
theorem d_tr_statistics_94 : decode b_tr_statistics 94 = .ok (.aload_n 0, 1) := by decide +kernel
theorem d_tr_statistics_95 : decode b_tr_statistics 95 = .ok (.getfield 33, 3) := by decide +kernel
theorem d_tr_statistics_98 : decode b_tr_statistics 98 = .ok (.getfield 186, 3) := by decide +kernel
theorem d_tr_statistics_101 : decode b_tr_statistics 101 = .ok (.iload 7, 2) := by decide +kernel
theorem d_tr_statistics_103 : decode b_tr_statistics 103 = .ok (.iaload, 1) := by decide +kernel
theorem d_tr_statistics_104 : decode b_tr_statistics 104 = .ok (.isub, 1) := by decide +kernel
theorem d_tr_statistics_105 : decode b_tr_statistics 105 = .ok (.istore 8, 2) := by decide +kernel
theorem d_tr_statistics_107 : decode b_tr_statistics 107 = .ok (.iinc 4 1, 3) := by decide +kernel
theorem d_tr_statistics_110 : decode b_tr_statistics 110 = .ok (.iload 5, 2) := by decide +kernel
theorem d_tr_statistics_112 : decode b_tr_statistics 112 = .ok (.iload 8, 2) := by decide +kernel
theorem d_tr_statistics_114 : decode b_tr_statistics 114 = .ok (.iadd, 1) := by decide +kernel
theorem d_tr_statistics_115 : decode b_tr_statistics 115 = .ok (.istore 5, 2) := by decide +kernel
theorem d_tr_statistics_117 : decode b_tr_statistics 117 = .ok (.iload 6, 2) := by decide +kernel
theorem d_tr_statistics_119 : decode b_tr_statistics 119 = .ok (.iload 8, 2) := by decide +kernel
theorem d_tr_statistics_121 : decode b_tr_statistics 121 = .ok (.invokestatic 193, 3) := by decide +kernel
theorem d_tr_statistics_124 : decode b_tr_statistics 124 = .ok (.istore 6, 2) := by decide +kernel
theorem d_tr_statistics_126 : decode b_tr_statistics 126 = .ok (.iinc 7 1, 3) := by decide +kernel
theorem d_tr_statistics_129 : decode b_tr_statistics 129 = .ok (.goto (-93), 3) := by decide +kernel
theorem d_tr_statistics_132 : decode b_tr_statistics 132 = .ok (.iload_n 3, 1) := by decide +kernel
theorem d_tr_statistics_133 : decode b_tr_statistics 133 = .ok (.tableswitch 48 0 3 #[31, 34, 37, 40], 31) := by decide +kernel
theorem d_tr_statistics_164 : decode b_tr_statistics 164 = .ok (.iload 4, 2) := by decide +kernel
theorem d_tr_statistics_166 : decode b_tr_statistics 166 = .ok (.ireturn, 1) := by decide +kernel
theorem d_tr_statistics_167 : decode b_tr_statistics 167 = .ok (.iload 5, 2) := by decide +kernel
theorem d_tr_statistics_169 : decode b_tr_statistics 169 = .ok (.ireturn, 1) := by decide +kernel
theorem d_tr_statistics_170 : decode b_tr_statistics 170 = .ok (.iload 6, 2) := by decide +kernel
theorem d_tr_statistics_172 : decode b_tr_statistics 172 = .ok (.ireturn, 1) := by decide +kernel
theorem d_tr_statistics_173 : decode b_tr_statistics 173 = .ok (.iload 5, 2) := by decide +kernel
theorem d_tr_statistics_175 : decode b_tr_statistics 175 = .ok (.iload 4, 2) := by decide +kernel
theorem d_tr_statistics_177 : decode b_tr_statistics 177 = .ok (.invokestatic 196, 3) := by decide +kernel
theorem d_tr_statistics_180 : decode b_tr_statistics 180 = .ok (.ireturn, 1) := by decide +kernel
theorem d_tr_statistics_181 : decode b_tr_statistics 181 = .ok (.iconst (-1), 1) := by decide +kernel
theorem d_tr_statistics_182 : decode b_tr_statistics 182 = .ok (.ireturn, 1) := by decide +kernel
theorem d_tr_average_0 : decode b_tr_average 0 = .ok (.iload_n 1, 1) := by decide +kernel
theorem d_tr_average_1 : decode b_tr_average 1 = .ok (.ifCond .ne 13, 3) := by decide +kernel
theorem d_tr_average_4 : decode b_tr_average 4 = .ok (.new 205, 3) := by decide +kernel
theorem d_tr_average_7 : decode b_tr_average 7 = .ok (.dup, 1) := by decide +kernel
theorem d_tr_average_8 : decode b_tr_average 8 = .ok (.ldc 207, 2) := by decide +kernel
theorem d_tr_average_10 : decode b_tr_average 10 = .ok (.invokespecial 209, 3) := by decide +kernel
theorem d_tr_average_13 : decode b_tr_average 13 = .ok (.athrow, 1) := by decide +kernel
theorem d_tr_average_14 : decode b_tr_average 14 = .ok (.iload_n 0, 1) := by decide +kernel
theorem d_tr_average_15 : decode b_tr_average 15 = .ok (.iload_n 1, 1) := by decide +kernel
theorem d_tr_average_16 : decode b_tr_average 16 = .ok (.idiv, 1) := by decide +kernel
theorem d_tr_average_17 : decode b_tr_average 17 = .ok (.ireturn, 1) := by decide +kernel
end
section
theorem d_mo_init_0 : decode b_mo_init 0 = .ok (.aload_n 0, 1) := by decide +kernel
theorem d_mo_init_1 : decode b_mo_init 1 = .ok (.invokespecial 1, 3) := by decide +kernel
theorem d_mo_init_4 : decode b_mo_init 4 = .ok (.aload_n 0, 1) := by decide +kernel
theorem d_mo_init_5 : decode b_mo_init 5 = .ok (.bipush 12, 2) := by decide +kernel
theorem d_mo_init_7 : decode b_mo_init 7 = .ok (.newarray .boolean, 2) := by decide +kernel
theorem d_mo_init_9 : decode b_mo_init 9 = .ok (.putfield 7, 3) := by decide +kernel
theorem d_mo_init_12 : decode b_mo_init 12 = .ok (.aload_n 0, 1) := by decide +kernel
theorem d_mo_init_13 : decode b_mo_init 13 = .ok (.sipush 240, 3) := by decide +kernel
theorem d_mo_init_16 : decode b_mo_init 16 = .ok (.newarray .int, 2) := by decide +kernel
theorem d_mo_init_18 : decode b_mo_init 18 = .ok (.putfield 13, 3) := by decide +kernel
theorem d_mo_init_21 : decode b_mo_init 21 = .ok (.aload_n 0, 1) := by decide +kernel
theorem d_mo_init_22 : decode b_mo_init 22 = .ok (.bipush 60, 2) := by decide +kernel
theorem d_mo_init_24 : decode b_mo_init 24 = .ok (.newarray .int, 2) := by decide +kernel
theorem d_mo_init_26 : decode b_mo_init 26 = .ok (.putfield 17, 3) := by decide +kernel
theorem d_mo_init_29 : decode b_mo_init 29 = .ok (.aload_n 0, 1) := by decide +kernel
theorem d_mo_init_30 : decode b_mo_init 30 = .ok (.bipush 60, 2) := by decide +kernel
theorem d_mo_init_32 : decode b_mo_init 32 = .ok (.newarray .int, 2) := by decide +kernel
theorem d_mo_init_34 : decode b_mo_init 34 = .ok (.putfield 20, 3) := by decide +kernel
theorem d_mo_init_37 : decode b_mo_init 37 = .ok (.aload_n 0, 1) := by decide +kernel
theorem d_mo_init_38 : decode b_mo_init 38 = .ok (.sipush 183, 3) := by decide +kernel
theorem d_mo_init_41 : decode b_mo_init 41 = .ok (.newarray .int, 2) := by decide +kernel
theorem d_mo_init_43 : decode b_mo_init 43 = .ok (.putfield 23, 3) := by decide +kernel
theorem d_mo_init_46 : decode b_mo_init 46 = .ok (.aload_n 0, 1) := by decide +kernel
theorem d_mo_init_47 : decode b_mo_init 47 = .ok (.bipush 61, 2) := by decide +kernel
theorem d_mo_init_49 : decode b_mo_init 49 = .ok (.newarray .boolean, 2) := by decide +kernel
theorem d_mo_init_51 : decode b_mo_init 51 = .ok (.putfield 26, 3) := by decide +kernel
theorem d_mo_init_54 : decode b_mo_init 54 = .ok (.aload_n 0, 1) := by decide +kernel
theorem d_mo_init_55 : decode b_mo_init 55 = .ok (.bipush 61, 2) := by decide +kernel
theorem d_mo_init_57 : decode b_mo_init 57 = .ok (.newarray .boolean, 2) := by decide +kernel
theorem d_mo_init_59 : decode b_mo_init 59 = .ok (.putfield 29, 3) := by decide +kernel
theorem d_mo_init_62 : decode b_mo_init 62 = .ok (.aload_n 0, 1) := by decide +kernel
theorem d_mo_init_63 : decode b_mo_init 63 = .ok (.sipush 1208, 3) := by decide +kernel
theorem d_mo_init_66 : decode b_mo_init 66 = .ok (.newarray .int, 2) := by decide +kernel
theorem d_mo_init_68 : decode b_mo_init 68 = .ok (.putfield 32, 3) := by decide +kernel
theorem d_mo_init_71 : decode b_mo_init 71 = .ok (.aload_n 0, 1) := by decide +kernel
theorem d_mo_init_72 : decode b_mo_init 72 = .ok (.sipush 200, 3) := by decide +kernel
theorem d_mo_init_75 : decode b_mo_init 75 = .ok (.newarray .int, 2) := by decide +kernel
theorem d_mo_init_77 : decode b_mo_init 77 = .ok (.putfield 35, 3) := by decide +kernel
theorem d_mo_init_80 : decode b_mo_init 80 = .ok (.return_, 1) := by decide +kernel
theorem d_mo_thrown_0 : decode b_mo_thrown 0 = .ok (.aload_n 0, 1) := by decide +kernel
theorem d_mo_thrown_1 : decode b_mo_thrown 1 = .ok (.getfield 38, 3) := by decide +kernel
theorem d_mo_thrown_4 : decode b_mo_thrown 4 = .ok (.ireturn, 1) := by decide +kernel
theorem d_mo_place_0 : decode b_mo_place 0 = .ok (.aload_n 0, 1) := by decide +kernel
theorem d_mo_place_1 : decode b_mo_place 1 = .ok (.iconst 0, 1) := by decide +kernel
theorem d_mo_place_2 : decode b_mo_place 2 = .ok (.putfield 38, 3) := by decide +kernel
theorem d_mo_place_5 : decode b_mo_place 5 = .ok (.aload_n 0, 1) := by decide +kernel
theorem d_mo_place_6 : decode b_mo_place 6 = .ok (.getfield 42, 3) := by decide +kernel
theorem d_mo_place_9 : decode b_mo_place 9 = .ok (.bipush 12, 2) := by decide +kernel
theorem d_mo_place_11 : decode b_mo_place 11 = .ok (.if_icmp .ne 5, 3) := by decide +kernel
theorem d_mo_place_14 : decode b_mo_place 14 = .ok (.iconst (-1), 1) := by decide +kernel
theorem d_mo_place_15 : decode b_mo_place 15 = .ok (.ireturn, 1) := by decide +kernel
theorem d_mo_place_16 : decode b_mo_place 16 = .ok (.aload_n 0, 1) := by decide +kernel
theorem d_mo_place_17 : decode b_mo_place 17 = .ok (.dup, 1) := by decide +kernel
theorem d_mo_place_18 : decode b_mo_place 18 = .ok (.getfield 42, 3) := by decide +kernel
theorem d_mo_place_21 : decode b_mo_place 21 = .ok (.iconst 1, 1) := by decide +kernel
theorem d_mo_place_22 : decode b_mo_place 22 = .ok (.iadd, 1) := by decide +kernel
theorem d_mo_place_23 : decode b_mo_place 23 = .ok (.putfield 42, 3) := by decide +kernel
theorem d_mo_place_26 : decode b_mo_place 26 = .ok (.aload_n 0, 1) := by decide +kernel
theorem d_mo_place_27 : decode b_mo_place 27 = .ok (.getfield 42, 3) := by decide +kernel
theorem d_mo_place_30 : decode b_mo_place 30 = .ok (.iconst 1, 1) := by decide +kernel
theorem d_mo_place_31 : decode b_mo_place 31 = .ok (.isub, 1) := by decide +kernel
theorem d_mo_place_32 : decode b_mo_place 32 = .ok (.ireturn, 1) := by decide +kernel
theorem d_mo_open_0 : decode b_mo_open 0 = .ok (.aload_n 0, 1) := by decide +kernel
theorem d_mo_open_1 : decode b_mo_open 1 = .ok (.iconst 0, 1) := by decide +kernel
theorem d_mo_open_2 : decode b_mo_open 2 = .ok (.putfield 38, 3) := by decide +kernel
theorem d_mo_open_5 : decode b_mo_open 5 = .ok (.aload_n 0, 1) := by decide +kernel
theorem d_mo_open_6 : decode b_mo_open 6 = .ok (.iload_n 1, 1) := by decide +kernel
theorem d_mo_open_7 : decode b_mo_open 7 = .ok (.invokevirtual 55, 3) := by decide +kernel
theorem d_mo_open_10 : decode b_mo_open 10 = .ok (.ifCond .ne 5, 3) := by decide +kernel
theorem d_mo_open_13 : decode b_mo_open 13 = .ok (.iconst 0, 1) := by decide +kernel
theorem d_mo_open_14 : decode b_mo_open 14 = .ok (.ireturn, 1) := by decide +kernel
theorem d_mo_open_15 : decode b_mo_open 15 = .ok (.aload_n 0, 1) := by decide +kernel
theorem d_mo_open_16 : decode b_mo_open 16 = .ok (.getfield 7, 3) := by decide +kernel
theorem d_mo_open_19 : decode b_mo_open 19 = .ok (.iload_n 1, 1) := by decide +kernel
theorem d_mo_open_20 : decode b_mo_open 20 = .ok (.baload, 1) := by decide +kernel
theorem d_mo_open_21 : decode b_mo_open 21 = .ok (.ifCond .ne 7, 3) := by decide +kernel
theorem d_mo_open_24 : decode b_mo_open 24 = .ok (.iconst 1, 1) := by decide +kernel
theorem d_mo_open_25 : decode b_mo_open 25 = .ok (.goto 4, 3) := by decide +kernel
theorem d_mo_open_28 : decode b_mo_open 28 = .ok (.iconst 0, 1) := by decide +kernel
theorem d_mo_open_29 : decode b_mo_open 29 = .ok (.istore_n 3, 1) := by decide +kernel
theorem d_mo_open_30 : decode b_mo_open 30 = .ok (.aload_n 0, 1) := by decide +kernel
theorem d_mo_open_31 : decode b_mo_open 31 = .ok (.getfield 7, 3) := by decide +kernel
theorem d_mo_open_34 : decode b_mo_open 34 = .ok (.iload_n 1, 1) := by decide +kernel
theorem d_mo_open_35 : decode b_mo_open 35 = .ok (.iload_n 2, 1) := by decide +kernel
theorem d_mo_open_36 : decode b_mo_open 36 = .ok (.ifCond .ne 7, 3) := by decide +kernel
theorem d_mo_open_39 : decode b_mo_open 39 = .ok (.iconst 1, 1) := by decide +kernel
theorem d_mo_open_40 : decode b_mo_open 40 = .ok (.goto 4, 3) := by decide +kernel
theorem d_mo_open_43 : decode b_mo_open 43 = .ok (.iconst 0, 1) := by decide +kernel
theorem d_mo_open_44 : decode b_mo_open 44 = .ok (.bastore, 1) := by decide +kernel
theorem d_mo_open_45 : decode b_mo_open 45 = .ok (.iload_n 3, 1) := by decide +kernel
theorem d_mo_open_46 : decode b_mo_open 46 = .ok (.ireturn, 1) := by decide +kernel
theorem d_mo_isPlace_0 : decode b_mo_isPlace 0 = .ok (.iload_n 1, 1) := by decide +kernel
theorem d_mo_isPlace_1 : decode b_mo_isPlace 1 = .ok (.ifCond .lt 15, 3) := by decide +kernel
theorem d_mo_isPlace_4 : decode b_mo_isPlace 4 = .ok (.iload_n 1, 1) := by decide +kernel
theorem d_mo_isPlace_5 : decode b_mo_isPlace 5 = .ok (.aload_n 0, 1) := by decide +kernel
theorem d_mo_isPlace_6 : decode b_mo_isPlace 6 = .ok (.getfield 42, 3) := by decide +kernel
theorem d_mo_isPlace_9 : decode b_mo_isPlace 9 = .ok (.if_icmp .ge 7, 3) := by decide +kernel
theorem d_mo_isPlace_12 : decode b_mo_isPlace 12 = .ok (.iconst 1, 1) := by decide +kernel
theorem d_mo_isPlace_13 : decode b_mo_isPlace 13 = .ok (.goto 4, 3) := by decide +kernel
theorem d_mo_isPlace_16 : decode b_mo_isPlace 16 = .ok (.iconst 0, 1) := by decide +kernel
theorem d_mo_isPlace_17 : decode b_mo_isPlace 17 = .ok (.ireturn, 1) := by decide +kernel
theorem d_mo_route_0 : decode b_mo_route 0 = .ok (.aload_n 0, 1) := by decide +kernel
theorem d_mo_route_1 : decode b_mo_route 1 = .ok (.iconst 0, 1) := by decide +kernel
theorem d_mo_route_2 : decode b_mo_route 2 = .ok (.putfield 38, 3) := by decide +kernel
theorem d_mo_route_5 : decode b_mo_route 5 = .ok (.aload_n 0, 1) := by decide +kernel
theorem d_mo_route_6 : decode b_mo_route 6 = .ok (.iload_n 1, 1) := by decide +kernel
theorem d_mo_route_7 : decode b_mo_route 7 = .ok (.invokevirtual 55, 3) := by decide +kernel
theorem d_mo_route_10 : decode b_mo_route 10 = .ok (.ifCond .eq 61, 3) := by decide +kernel
theorem d_mo_route_13 : decode b_mo_route 13 = .ok (.aload_n 0, 1) := by decide +kernel
theorem d_mo_route_14 : decode b_mo_route 14 = .ok (.iload_n 2, 1) := by decide +kernel
theorem d_mo_route_15 : decode b_mo_route 15 = .ok (.invokevirtual 55, 3) := by decide +kernel
theorem d_mo_route_18 : decode b_mo_route 18 = .ok (.ifCond .eq 53, 3) := by decide +kernel
theorem d_mo_route_21 : decode b_mo_route 21 = .ok (.iload_n 1, 1) := by decide +kernel
theorem d_mo_route_22 : decode b_mo_route 22 = .ok (.iload_n 2, 1) := by decide +kernel
theorem d_mo_route_23 : decode b_mo_route 23 = .ok (.if_icmp .eq 48, 3) := by decide +kernel
theorem d_mo_route_26 : decode b_mo_route 26 = .ok (.iload_n 3, 1) := by decide +kernel
theorem d_mo_route_27 : decode b_mo_route 27 = .ok (.iconst 1, 1) := by decide +kernel
theorem d_mo_route_28 : decode b_mo_route 28 = .ok (.if_icmp .lt 43, 3) := by decide +kernel
theorem d_mo_route_31 : decode b_mo_route 31 = .ok (.iload_n 3, 1) := by decide +kernel
theorem d_mo_route_32 : decode b_mo_route 32 = .ok (.bipush 127, 2) := by decide +kernel
theorem d_mo_route_34 : decode b_mo_route 34 = .ok (.if_icmp .gt 37, 3) := by decide +kernel
theorem d_mo_route_37 : decode b_mo_route 37 = .ok (.iload 4, 2) := by decide +kernel
theorem d_mo_route_39 : decode b_mo_route 39 = .ok (.ifCond .lt 32, 3) := by decide +kernel
theorem d_mo_route_42 : decode b_mo_route 42 = .ok (.iload 4, 2) := by decide +kernel
theorem d_mo_route_44 : decode b_mo_route 44 = .ok (.bipush 30, 2) := by decide +kernel
theorem d_mo_route_46 : decode b_mo_route 46 = .ok (.if_icmp .gt 25, 3) := by decide +kernel
theorem d_mo_route_49 : decode b_mo_route 49 = .ok (.iload 5, 2) := by decide +kernel
theorem d_mo_route_51 : decode b_mo_route 51 = .ok (.iconst 1, 1) := by decide +kernel
theorem d_mo_route_52 : decode b_mo_route 52 = .ok (.if_icmp .lt 19, 3) := by decide +kernel
theorem d_mo_route_55 : decode b_mo_route 55 = .ok (.iload 5, 2) := by decide +kernel
theorem d_mo_route_57 : decode b_mo_route 57 = .ok (.bipush 99, 2) := by decide +kernel
theorem d_mo_route_59 : decode b_mo_route 59 = .ok (.if_icmp .gt 12, 3) := by decide +kernel
theorem d_mo_route_62 : decode b_mo_route 62 = .ok (.aload_n 0, 1) := by decide +kernel
theorem d_mo_route_63 : decode b_mo_route 63 = .ok (.getfield 45, 3) := by decide +kernel
theorem d_mo_route_66 : decode b_mo_route 66 = .ok (.bipush 40, 2) := by decide +kernel
theorem d_mo_route_68 : decode b_mo_route 68 = .ok (.if_icmp .ne 5, 3) := by decide +kernel
theorem d_mo_route_71 : decode b_mo_route 71 = .ok (.iconst (-1), 1) := by decide +kernel
theorem d_mo_route_72 : decode b_mo_route 72 = .ok (.ireturn, 1) := by decide +kernel
theorem d_mo_route_73 : decode b_mo_route 73 = .ok (.bipush 6, 2) := by decide +kernel
theorem d_mo_route_75 : decode b_mo_route 75 = .ok (.aload_n 0, 1) := by decide +kernel
theorem d_mo_route_76 : decode b_mo_route 76 = .ok (.getfield 45, 3) := by decide +kernel
theorem d_mo_route_79 : decode b_mo_route 79 = .ok (.imul, 1) := by decide +kernel
theorem d_mo_route_80 : decode b_mo_route 80 = .ok (.istore 6, 2) := by decide +kernel
theorem d_mo_route_82 : decode b_mo_route 82 = .ok (.aload_n 0, 1) := by decide +kernel
theorem d_mo_route_83 : decode b_mo_route 83 = .ok (.getfield 13, 3) := by decide +kernel
theorem d_mo_route_86 : decode b_mo_route 86 = .ok (.iload 6, 2) := by decide +kernel
theorem d_mo_route_88 : decode b_mo_route 88 = .ok (.iload_n 1, 1) := by decide +kernel
theorem d_mo_route_89 : decode b_mo_route 89 = .ok (.iastore, 1) := by decide +kernel
theorem d_mo_route_90 : decode b_mo_route 90 = .ok (.aload_n 0, 1) := by decide +kernel
theorem d_mo_route_91 : decode b_mo_route 91 = .ok (.getfield 13, 3) := by decide +kernel
theorem d_mo_route_94 : decode b_mo_route 94 = .ok (.iload 6, 2) := by decide +kernel
theorem d_mo_route_96 : decode b_mo_route 96 = .ok (.iconst 1, 1) := by decide +kernel
theorem d_mo_route_97 : decode b_mo_route 97 = .ok (.iadd, 1) := by decide +kernel
theorem d_mo_route_98 : decode b_mo_route 98 = .ok (.iload_n 2, 1) := by decide +kernel
theorem d_mo_route_99 : decode b_mo_route 99 = .ok (.iastore, 1) := by decide +kernel
theorem d_mo_route_100 : decode b_mo_route 100 = .ok (.aload_n 0, 1) := by decide +kernel
theorem d_mo_route_101 : decode b_mo_route 101 = .ok (.getfield 13, 3) := by decide +kernel
theorem d_mo_route_104 : decode b_mo_route 104 = .ok (.iload 6, 2) := by decide +kernel
theorem d_mo_route_106 : decode b_mo_route 106 = .ok (.iconst 2, 1) := by decide +kernel
theorem d_mo_route_107 : decode b_mo_route 107 = .ok (.iadd, 1) := by decide +kernel
theorem d_mo_route_108 : decode b_mo_route 108 = .ok (.iload_n 3, 1) := by decide +kernel
theorem d_mo_route_109 : decode b_mo_route 109 = .ok (.iastore, 1) := by decide +kernel
theorem d_mo_route_110 : decode b_mo_route 110 = .ok (.aload_n 0, 1) := by decide +kernel
theorem d_mo_route_111 : decode b_mo_route 111 = .ok (.getfield 13, 3) := by decide +kernel
theorem d_mo_route_114 : decode b_mo_route 114 = .ok (.iload 6, 2) := by decide +kernel
theorem d_mo_route_116 : decode b_mo_route 116 = .ok (.iconst 3, 1) := by decide +kernel
theorem d_mo_route_117 : decode b_mo_route 117 = .ok (.iadd, 1) := by decide +kernel
theorem d_mo_route_118 : decode b_mo_route 118 = .ok (.iload 4, 2) := by decide +kernel
theorem d_mo_route_120 : decode b_mo_route 120 = .ok (.iastore, 1) := by decide +kernel
theorem d_mo_route_121 : decode b_mo_route 121 = .ok (.aload_n 0, 1) := by decide +kernel
theorem d_mo_route_122 : decode b_mo_route 122 = .ok (.getfield 13, 3) := by decide +kernel
theorem d_mo_route_125 : decode b_mo_route 125 = .ok (.iload 6, 2) := by decide +kernel
theorem d_mo_route_127 : decode b_mo_route 127 = .ok (.iconst 4, 1) := by decide +kernel
theorem d_mo_route_128 : decode b_mo_route 128 = .ok (.iadd, 1) := by decide +kernel
theorem d_mo_route_129 : decode b_mo_route 129 = .ok (.iload 5, 2) := by decide +kernel
theorem d_mo_route_131 : decode b_mo_route 131 = .ok (.iastore, 1) := by decide +kernel
theorem d_mo_route_132 : decode b_mo_route 132 = .ok (.aload_n 0, 1) := by decide +kernel
theorem d_mo_route_133 : decode b_mo_route 133 = .ok (.getfield 13, 3) := by decide +kernel
theorem d_mo_route_136 : decode b_mo_route 136 = .ok (.iload 6, 2) := by decide +kernel
theorem d_mo_route_138 : decode b_mo_route 138 = .ok (.iconst 5, 1) := by decide +kernel
theorem d_mo_route_139 : decode b_mo_route 139 = .ok (.iadd, 1) := by decide +kernel
theorem d_mo_route_140 : decode b_mo_route 140 = .ok (.iconst (-1), 1) := by decide +kernel
theorem d_mo_route_141 : decode b_mo_route 141 = .ok (.iastore, 1) := by decide +kernel
theorem d_mo_route_142 : decode b_mo_route 142 = .ok (.aload_n 0, 1) := by decide +kernel
theorem d_mo_route_143 : decode b_mo_route 143 = .ok (.dup, 1) := by decide +kernel
theorem d_mo_route_144 : decode b_mo_route 144 = .ok (.getfield 45, 3) := by decide +kernel
theorem d_mo_route_147 : decode b_mo_route 147 = .ok (.iconst 1, 1) := by decide +kernel
theorem d_mo_route_148 : decode b_mo_route 148 = .ok (.iadd, 1) := by decide +kernel
theorem d_mo_route_149 : decode b_mo_route 149 = .ok (.putfield 45, 3) := by decide +kernel
theorem d_mo_route_152 : decode b_mo_route 152 = .ok (.aload_n 0, 1) := by decide +kernel
theorem d_mo_route_153 : decode b_mo_route 153 = .ok (.getfield 45, 3) := by decide +kernel
theorem d_mo_route_156 : decode b_mo_route 156 = .ok (.iconst 1, 1) := by decide +kernel
theorem d_mo_route_157 : decode b_mo_route 157 = .ok (.isub, 1) := by decide +kernel
theorem d_mo_route_158 : decode b_mo_route 158 = .ok (.ireturn, 1) := by decide +kernel
theorem d_mo_skip_0 : decode b_mo_skip 0 = .ok (.aload_n 0, 1) := by decide +kernel
theorem d_mo_skip_1 : decode b_mo_skip 1 = .ok (.iconst 0, 1) := by decide +kernel
theorem d_mo_skip_2 : decode b_mo_skip 2 = .ok (.putfield 38, 3) := by decide +kernel
theorem d_mo_skip_5 : decode b_mo_skip 5 = .ok (.aload_n 0, 1) := by decide +kernel
theorem d_mo_skip_6 : decode b_mo_skip 6 = .ok (.iload_n 1, 1) := by decide +kernel
theorem d_mo_skip_7 : decode b_mo_skip 7 = .ok (.invokevirtual 62, 3) := by decide +kernel
theorem d_mo_skip_10 : decode b_mo_skip 10 = .ok (.ifCond .eq 10, 3) := by decide +kernel
theorem d_mo_skip_13 : decode b_mo_skip 13 = .ok (.iload_n 2, 1) := by decide +kernel
theorem d_mo_skip_14 : decode b_mo_skip 14 = .ok (.invokestatic 65, 3) := by decide +kernel
theorem d_mo_skip_17 : decode b_mo_skip 17 = .ok (.ifCond .ne 5, 3) := by decide +kernel
theorem d_mo_skip_20 : decode b_mo_skip 20 = .ok (.iconst 0, 1) := by decide +kernel
theorem d_mo_skip_21 : decode b_mo_skip 21 = .ok (.ireturn, 1) := by decide +kernel
theorem d_mo_skip_22 : decode b_mo_skip 22 = .ok (.aload_n 0, 1) := by decide +kernel
theorem d_mo_skip_23 : decode b_mo_skip 23 = .ok (.iload_n 1, 1) := by decide +kernel
theorem d_mo_skip_24 : decode b_mo_skip 24 = .ok (.iload_n 2, 1) := by decide +kernel
theorem d_mo_skip_25 : decode b_mo_skip 25 = .ok (.invokevirtual 68, 3) := by decide +kernel
theorem d_mo_skip_28 : decode b_mo_skip 28 = .ok (.istore 4, 2) := by decide +kernel
theorem d_mo_skip_30 : decode b_mo_skip 30 = .ok (.iload_n 3, 1) := by decide +kernel
theorem d_mo_skip_31 : decode b_mo_skip 31 = .ok (.iload 4, 2) := by decide +kernel
theorem d_mo_skip_33 : decode b_mo_skip 33 = .ok (.iconst (-1), 1) := by decide +kernel
theorem d_mo_skip_34 : decode b_mo_skip 34 = .ok (.if_icmp .eq 7, 3) := by decide +kernel
theorem d_mo_skip_37 : decode b_mo_skip 37 = .ok (.iconst 1, 1) := by decide +kernel
theorem d_mo_skip_38 : decode b_mo_skip 38 = .ok (.goto 4, 3) := by decide +kernel
theorem d_mo_skip_41 : decode b_mo_skip 41 = .ok (.iconst 0, 1) := by decide +kernel
theorem d_mo_skip_42 : decode b_mo_skip 42 = .ok (.if_icmp .eq 16, 3) := by decide +kernel
theorem d_mo_skip_45 : decode b_mo_skip 45 = .ok (.iload_n 3, 1) := by decide +kernel
theorem d_mo_skip_46 : decode b_mo_skip 46 = .ok (.ifCond .eq 14, 3) := by decide +kernel
theorem d_mo_skip_49 : decode b_mo_skip 49 = .ok (.aload_n 0, 1) := by decide +kernel
theorem d_mo_skip_50 : decode b_mo_skip 50 = .ok (.getfield 59, 3) := by decide +kernel
theorem d_mo_skip_53 : decode b_mo_skip 53 = .ok (.bipush 60, 2) := by decide +kernel
theorem d_mo_skip_55 : decode b_mo_skip 55 = .ok (.if_icmp .ne 5, 3) := by decide +kernel
theorem d_mo_skip_58 : decode b_mo_skip 58 = .ok (.iconst 0, 1) := by decide +kernel
theorem d_mo_skip_59 : decode b_mo_skip 59 = .ok (.ireturn, 1) := by decide +kernel
theorem d_mo_skip_60 : decode b_mo_skip 60 = .ok (.iload_n 3, 1) := by decide +kernel
theorem d_mo_skip_61 : decode b_mo_skip 61 = .ok (.ifCond .eq 36, 3) := by decide +kernel
theorem d_mo_skip_64 : decode b_mo_skip 64 = .ok (.aload_n 0, 1) := by decide +kernel
theorem d_mo_skip_65 : decode b_mo_skip 65 = .ok (.getfield 17, 3) := by decide +kernel
theorem d_mo_skip_68 : decode b_mo_skip 68 = .ok (.aload_n 0, 1) := by decide +kernel
theorem d_mo_skip_69 : decode b_mo_skip 69 = .ok (.getfield 59, 3) := by decide +kernel
theorem d_mo_skip_72 : decode b_mo_skip 72 = .ok (.iload_n 1, 1) := by decide +kernel
theorem d_mo_skip_73 : decode b_mo_skip 73 = .ok (.iastore, 1) := by decide +kernel
theorem d_mo_skip_74 : decode b_mo_skip 74 = .ok (.aload_n 0, 1) := by decide +kernel
theorem d_mo_skip_75 : decode b_mo_skip 75 = .ok (.getfield 20, 3) := by decide +kernel
theorem d_mo_skip_78 : decode b_mo_skip 78 = .ok (.aload_n 0, 1) := by decide +kernel
theorem d_mo_skip_79 : decode b_mo_skip 79 = .ok (.getfield 59, 3) := by decide +kernel
theorem d_mo_skip_82 : decode b_mo_skip 82 = .ok (.iload_n 2, 1) := by decide +kernel
theorem d_mo_skip_83 : decode b_mo_skip 83 = .ok (.iastore, 1) := by decide +kernel
theorem d_mo_skip_84 : decode b_mo_skip 84 = .ok (.aload_n 0, 1) := by decide +kernel
theorem d_mo_skip_85 : decode b_mo_skip 85 = .ok (.dup, 1) := by decide +kernel
theorem d_mo_skip_86 : decode b_mo_skip 86 = .ok (.getfield 59, 3) := by decide +kernel
theorem d_mo_skip_89 : decode b_mo_skip 89 = .ok (.iconst 1, 1) := by decide +kernel
theorem d_mo_skip_90 : decode b_mo_skip 90 = .ok (.iadd, 1) := by decide +kernel
theorem d_mo_skip_91 : decode b_mo_skip 91 = .ok (.putfield 59, 3) := by decide +kernel
theorem d_mo_skip_94 : decode b_mo_skip 94 = .ok (.goto 45, 3) := by decide +kernel
theorem d_mo_skip_97 : decode b_mo_skip 97 = .ok (.aload_n 0, 1) := by decide +kernel
theorem d_mo_skip_98 : decode b_mo_skip 98 = .ok (.dup, 1) := by decide +kernel
theorem d_mo_skip_99 : decode b_mo_skip 99 = .ok (.getfield 59, 3) := by decide +kernel
theorem d_mo_skip_102 : decode b_mo_skip 102 = .ok (.iconst 1, 1) := by decide +kernel
theorem d_mo_skip_103 : decode b_mo_skip 103 = .ok (.isub, 1) := by decide +kernel
theorem d_mo_skip_104 : decode b_mo_skip 104 = .ok (.putfield 59, 3) := by decide +kernel
theorem d_mo_skip_107 : decode b_mo_skip 107 = .ok (.aload_n 0, 1) := by decide +kernel
theorem d_mo_skip_108 : decode b_mo_skip 108 = .ok (.getfield 17, 3) := by decide +kernel
theorem d_mo_skip_111 : decode b_mo_skip 111 = .ok (.iload 4, 2) := by decide +kernel
theorem d_mo_skip_113 : decode b_mo_skip 113 = .ok (.aload_n 0, 1) := by decide +kernel
theorem d_mo_skip_114 : decode b_mo_skip 114 = .ok (.getfield 17, 3) := by decide +kernel
theorem d_mo_skip_117 : decode b_mo_skip 117 = .ok (.aload_n 0, 1) := by decide +kernel
theorem d_mo_skip_118 : decode b_mo_skip 118 = .ok (.getfield 59, 3) := by decide +kernel
theorem d_mo_skip_121 : decode b_mo_skip 121 = .ok (.iaload, 1) := by decide +kernel
theorem d_mo_skip_122 : decode b_mo_skip 122 = .ok (.iastore, 1) := by decide +kernel
theorem d_mo_skip_123 : decode b_mo_skip 123 = .ok (.aload_n 0, 1) := by decide +kernel
theorem d_mo_skip_124 : decode b_mo_skip 124 = .ok (.getfield 20, 3) := by decide +kernel
theorem d_mo_skip_127 : decode b_mo_skip 127 = .ok (.iload 4, 2) := by decide +kernel
theorem d_mo_skip_129 : decode b_mo_skip 129 = .ok (.aload_n 0, 1) := by decide +kernel
theorem d_mo_skip_130 : decode b_mo_skip 130 = .ok (.getfield 20, 3) := by decide +kernel
theorem d_mo_skip_133 : decode b_mo_skip 133 = .ok (.aload_n 0, 1) := by decide +kernel
theorem d_mo_skip_134 : decode b_mo_skip 134 = .ok (.getfield 59, 3) := by decide +kernel
theorem d_mo_skip_137 : decode b_mo_skip 137 = .ok (.iaload, 1) := by decide +kernel
theorem d_mo_skip_138 : decode b_mo_skip 138 = .ok (.iastore, 1) := by decide +kernel
theorem d_mo_skip_139 : decode b_mo_skip 139 = .ok (.iconst 1, 1) := by decide +kernel
theorem d_mo_skip_140 : decode b_mo_skip 140 = .ok (.ireturn, 1) := by decide +kernel
theorem d_mo_isRoute_0 : decode b_mo_isRoute 0 = .ok (.iload_n 1, 1) := by decide +kernel
theorem d_mo_isRoute_1 : decode b_mo_isRoute 1 = .ok (.ifCond .lt 15, 3) := by decide +kernel
theorem d_mo_isRoute_4 : decode b_mo_isRoute 4 = .ok (.iload_n 1, 1) := by decide +kernel
theorem d_mo_isRoute_5 : decode b_mo_isRoute 5 = .ok (.aload_n 0, 1) := by decide +kernel
theorem d_mo_isRoute_6 : decode b_mo_isRoute 6 = .ok (.getfield 45, 3) := by decide +kernel
theorem d_mo_isRoute_9 : decode b_mo_isRoute 9 = .ok (.if_icmp .ge 7, 3) := by decide +kernel
theorem d_mo_isRoute_12 : decode b_mo_isRoute 12 = .ok (.iconst 1, 1) := by decide +kernel
theorem d_mo_isRoute_13 : decode b_mo_isRoute 13 = .ok (.goto 4, 3) := by decide +kernel
theorem d_mo_isRoute_16 : decode b_mo_isRoute 16 = .ok (.iconst 0, 1) := by decide +kernel
theorem d_mo_isRoute_17 : decode b_mo_isRoute 17 = .ok (.ireturn, 1) := by decide +kernel
theorem d_mo_isDay_0 : decode b_mo_isDay 0 = .ok (.iload_n 0, 1) := by decide +kernel
theorem d_mo_isDay_1 : decode b_mo_isDay 1 = .ok (.ifCond .lt 13, 3) := by decide +kernel
theorem d_mo_isDay_4 : decode b_mo_isDay 4 = .ok (.iload_n 0, 1) := by decide +kernel
theorem d_mo_isDay_5 : decode b_mo_isDay 5 = .ok (.ldc 54, 2) := by decide +kernel
theorem d_mo_isDay_7 : decode b_mo_isDay 7 = .ok (.if_icmp .ge 7, 3) := by decide +kernel
theorem d_mo_isDay_10 : decode b_mo_isDay 10 = .ok (.iconst 1, 1) := by decide +kernel
theorem d_mo_isDay_11 : decode b_mo_isDay 11 = .ok (.goto 4, 3) := by decide +kernel
theorem d_mo_isDay_14 : decode b_mo_isDay 14 = .ok (.iconst 0, 1) := by decide +kernel
theorem d_mo_isDay_15 : decode b_mo_isDay 15 = .ok (.ireturn, 1) := by decide +kernel
theorem d_mo_skipped_0 : decode b_mo_skipped 0 = .ok (.iconst 0, 1) := by decide +kernel
theorem d_mo_skipped_1 : decode b_mo_skipped 1 = .ok (.istore_n 3, 1) := by decide +kernel
theorem d_mo_skipped_2 : decode b_mo_skipped 2 = .ok (.iload_n 3, 1) := by decide +kernel
theorem d_mo_skipped_3 : decode b_mo_skipped 3 = .ok (.aload_n 0, 1) := by decide +kernel
theorem d_mo_skipped_4 : decode b_mo_skipped 4 = .ok (.getfield 59, 3) := by decide +kernel
theorem d_mo_skipped_7 : decode b_mo_skipped 7 = .ok (.if_icmp .ge 31, 3) := by decide +kernel
theorem d_mo_skipped_10 : decode b_mo_skipped 10 = .ok (.aload_n 0, 1) := by decide +kernel
theorem d_mo_skipped_11 : decode b_mo_skipped 11 = .ok (.getfield 17, 3) := by decide +kernel
theorem d_mo_skipped_14 : decode b_mo_skipped 14 = .ok (.iload_n 3, 1) := by decide +kernel
theorem d_mo_skipped_15 : decode b_mo_skipped 15 = .ok (.iaload, 1) := by decide +kernel
theorem d_mo_skipped_16 : decode b_mo_skipped 16 = .ok (.iload_n 1, 1) := by decide +kernel
theorem d_mo_skipped_17 : decode b_mo_skipped 17 = .ok (.if_icmp .ne 15, 3) := by decide +kernel
theorem d_mo_skipped_20 : decode b_mo_skipped 20 = .ok (.aload_n 0, 1) := by decide +kernel
theorem d_mo_skipped_21 : decode b_mo_skipped 21 = .ok (.getfield 20, 3) := by decide +kernel
theorem d_mo_skipped_24 : decode b_mo_skipped 24 = .ok (.iload_n 3, 1) := by decide +kernel
theorem d_mo_skipped_25 : decode b_mo_skipped 25 = .ok (.iaload, 1) := by decide +kernel
theorem d_mo_skipped_26 : decode b_mo_skipped 26 = .ok (.iload_n 2, 1) := by decide +kernel
theorem d_mo_skipped_27 : decode b_mo_skipped 27 = .ok (.if_icmp .ne 5, 3) := by decide +kernel
theorem d_mo_skipped_30 : decode b_mo_skipped 30 = .ok (.iload_n 3, 1) := by decide +kernel
theorem d_mo_skipped_31 : decode b_mo_skipped 31 = .ok (.ireturn, 1) := by decide +kernel
theorem d_mo_skipped_32 : decode b_mo_skipped 32 = .ok (.iinc 3 1, 3) := by decide +kernel
theorem d_mo_skipped_35 : decode b_mo_skipped 35 = .ok (.goto (-33), 3) := by decide +kernel
theorem d_mo_skipped_38 : decode b_mo_skipped 38 = .ok (.iconst (-1), 1) := by decide +kernel
theorem d_mo_skipped_39 : decode b_mo_skipped 39 = .ok (.ireturn, 1) := by decide +kernel
theorem d_mo_copy_0 : decode b_mo_copy 0 = .ok (.aload_n 0, 1) := by decide +kernel
theorem d_mo_copy_1 : decode b_mo_copy 1 = .ok (.iconst 0, 1) := by decide +kernel
theorem d_mo_copy_2 : decode b_mo_copy 2 = .ok (.putfield 38, 3) := by decide +kernel
theorem d_mo_copy_5 : decode b_mo_copy 5 = .ok (.aload_n 0, 1) := by decide +kernel
theorem d_mo_copy_6 : decode b_mo_copy 6 = .ok (.iload_n 1, 1) := by decide +kernel
theorem d_mo_copy_7 : decode b_mo_copy 7 = .ok (.invokevirtual 55, 3) := by decide +kernel
theorem d_mo_copy_10 : decode b_mo_copy 10 = .ok (.ifCond .eq 12, 3) := by decide +kernel
theorem d_mo_copy_13 : decode b_mo_copy 13 = .ok (.aload_n 0, 1) := by decide +kernel
theorem d_mo_copy_14 : decode b_mo_copy 14 = .ok (.getfield 48, 3) := by decide +kernel
theorem d_mo_copy_17 : decode b_mo_copy 17 = .ok (.bipush 60, 2) := by decide +kernel
theorem d_mo_copy_19 : decode b_mo_copy 19 = .ok (.if_icmp .ne 5, 3) := by decide +kernel
theorem d_mo_copy_22 : decode b_mo_copy 22 = .ok (.iconst 0, 1) := by decide +kernel
theorem d_mo_copy_23 : decode b_mo_copy 23 = .ok (.ireturn, 1) := by decide +kernel
theorem d_mo_copy_24 : decode b_mo_copy 24 = .ok (.aload_n 0, 1) := by decide +kernel
theorem d_mo_copy_25 : decode b_mo_copy 25 = .ok (.dup, 1) := by decide +kernel
theorem d_mo_copy_26 : decode b_mo_copy 26 = .ok (.getfield 48, 3) := by decide +kernel
theorem d_mo_copy_29 : decode b_mo_copy 29 = .ok (.iconst 1, 1) := by decide +kernel
theorem d_mo_copy_30 : decode b_mo_copy 30 = .ok (.iadd, 1) := by decide +kernel
theorem d_mo_copy_31 : decode b_mo_copy 31 = .ok (.putfield 48, 3) := by decide +kernel
theorem d_mo_copy_34 : decode b_mo_copy 34 = .ok (.aload_n 0, 1) := by decide +kernel
theorem d_mo_copy_35 : decode b_mo_copy 35 = .ok (.getfield 23, 3) := by decide +kernel
theorem d_mo_copy_38 : decode b_mo_copy 38 = .ok (.iconst 3, 1) := by decide +kernel
theorem d_mo_copy_39 : decode b_mo_copy 39 = .ok (.aload_n 0, 1) := by decide +kernel
theorem d_mo_copy_40 : decode b_mo_copy 40 = .ok (.getfield 48, 3) := by decide +kernel
theorem d_mo_copy_43 : decode b_mo_copy 43 = .ok (.imul, 1) := by decide +kernel
theorem d_mo_copy_44 : decode b_mo_copy 44 = .ok (.iload_n 1, 1) := by decide +kernel
theorem d_mo_copy_45 : decode b_mo_copy 45 = .ok (.iastore, 1) := by decide +kernel
theorem d_mo_copy_46 : decode b_mo_copy 46 = .ok (.aload_n 0, 1) := by decide +kernel
theorem d_mo_copy_47 : decode b_mo_copy 47 = .ok (.getfield 23, 3) := by decide +kernel
theorem d_mo_copy_50 : decode b_mo_copy 50 = .ok (.iconst 3, 1) := by decide +kernel
theorem d_mo_copy_51 : decode b_mo_copy 51 = .ok (.aload_n 0, 1) := by decide +kernel
theorem d_mo_copy_52 : decode b_mo_copy 52 = .ok (.getfield 48, 3) := by decide +kernel
theorem d_mo_copy_55 : decode b_mo_copy 55 = .ok (.imul, 1) := by decide +kernel
theorem d_mo_copy_56 : decode b_mo_copy 56 = .ok (.iconst 1, 1) := by decide +kernel
theorem d_mo_copy_57 : decode b_mo_copy 57 = .ok (.iadd, 1) := by decide +kernel
theorem d_mo_copy_58 : decode b_mo_copy 58 = .ok (.iload_n 1, 1) := by decide +kernel
theorem d_mo_copy_59 : decode b_mo_copy 59 = .ok (.iastore, 1) := by decide +kernel
theorem d_mo_copy_60 : decode b_mo_copy 60 = .ok (.aload_n 0, 1) := by decide +kernel
theorem d_mo_copy_61 : decode b_mo_copy 61 = .ok (.getfield 48, 3) := by decide +kernel
theorem d_mo_copy_64 : decode b_mo_copy 64 = .ok (.ireturn, 1) := by decide +kernel
theorem d_mo_priority_0 : decode b_mo_priority 0 = .ok (.aload_n 0, 1) := by decide +kernel
theorem d_mo_priority_1 : decode b_mo_priority 1 = .ok (.iconst 0, 1) := by decide +kernel
theorem d_mo_priority_2 : decode b_mo_priority 2 = .ok (.putfield 38, 3) := by decide +kernel
theorem d_mo_priority_5 : decode b_mo_priority 5 = .ok (.aload_n 0, 1) := by decide +kernel
theorem d_mo_priority_6 : decode b_mo_priority 6 = .ok (.iload_n 1, 1) := by decide +kernel
theorem d_mo_priority_7 : decode b_mo_priority 7 = .ok (.invokevirtual 72, 3) := by decide +kernel
theorem d_mo_priority_10 : decode b_mo_priority 10 = .ok (.ifCond .ne 5, 3) := by decide +kernel
theorem d_mo_priority_13 : decode b_mo_priority 13 = .ok (.iconst 0, 1) := by decide +kernel
theorem d_mo_priority_14 : decode b_mo_priority 14 = .ok (.ireturn, 1) := by decide +kernel
theorem d_mo_priority_15 : decode b_mo_priority 15 = .ok (.aload_n 0, 1) := by decide +kernel
theorem d_mo_priority_16 : decode b_mo_priority 16 = .ok (.getfield 26, 3) := by decide +kernel
theorem d_mo_priority_19 : decode b_mo_priority 19 = .ok (.iload_n 1, 1) := by decide +kernel
theorem d_mo_priority_20 : decode b_mo_priority 20 = .ok (.baload, 1) := by decide +kernel
theorem d_mo_priority_21 : decode b_mo_priority 21 = .ok (.istore_n 3, 1) := by decide +kernel
theorem d_mo_priority_22 : decode b_mo_priority 22 = .ok (.aload_n 0, 1) := by decide +kernel
theorem d_mo_priority_23 : decode b_mo_priority 23 = .ok (.getfield 26, 3) := by decide +kernel
theorem d_mo_priority_26 : decode b_mo_priority 26 = .ok (.iload_n 1, 1) := by decide +kernel
theorem d_mo_priority_27 : decode b_mo_priority 27 = .ok (.iload_n 2, 1) := by decide +kernel
theorem d_mo_priority_28 : decode b_mo_priority 28 = .ok (.bastore, 1) := by decide +kernel
theorem d_mo_priority_29 : decode b_mo_priority 29 = .ok (.iload_n 3, 1) := by decide +kernel
theorem d_mo_priority_30 : decode b_mo_priority 30 = .ok (.ireturn, 1) := by decide +kernel
theorem d_mo_isCopy_0 : decode b_mo_isCopy 0 = .ok (.iload_n 1, 1) := by decide +kernel
theorem d_mo_isCopy_1 : decode b_mo_isCopy 1 = .ok (.ifCond .le 15, 3) := by decide +kernel
theorem d_mo_isCopy_4 : decode b_mo_isCopy 4 = .ok (.iload_n 1, 1) := by decide +kernel
theorem d_mo_isCopy_5 : decode b_mo_isCopy 5 = .ok (.aload_n 0, 1) := by decide +kernel
theorem d_mo_isCopy_6 : decode b_mo_isCopy 6 = .ok (.getfield 48, 3) := by decide +kernel
theorem d_mo_isCopy_9 : decode b_mo_isCopy 9 = .ok (.if_icmp .gt 7, 3) := by decide +kernel
theorem d_mo_isCopy_12 : decode b_mo_isCopy 12 = .ok (.iconst 1, 1) := by decide +kernel
theorem d_mo_isCopy_13 : decode b_mo_isCopy 13 = .ok (.goto 4, 3) := by decide +kernel
theorem d_mo_isCopy_16 : decode b_mo_isCopy 16 = .ok (.iconst 0, 1) := by decide +kernel
theorem d_mo_isCopy_17 : decode b_mo_isCopy 17 = .ok (.ireturn, 1) := by decide +kernel
theorem d_mo_floats_0 : decode b_mo_floats 0 = .ok (.aload_n 0, 1) := by decide +kernel
theorem d_mo_floats_1 : decode b_mo_floats 1 = .ok (.iconst 0, 1) := by decide +kernel
theorem d_mo_floats_2 : decode b_mo_floats 2 = .ok (.putfield 38, 3) := by decide +kernel
theorem d_mo_floats_5 : decode b_mo_floats 5 = .ok (.aload_n 0, 1) := by decide +kernel
theorem d_mo_floats_6 : decode b_mo_floats 6 = .ok (.iload_n 1, 1) := by decide +kernel
theorem d_mo_floats_7 : decode b_mo_floats 7 = .ok (.invokevirtual 72, 3) := by decide +kernel
theorem d_mo_floats_10 : decode b_mo_floats 10 = .ok (.ifCond .ne 5, 3) := by decide +kernel
theorem d_mo_floats_13 : decode b_mo_floats 13 = .ok (.iconst 0, 1) := by decide +kernel
theorem d_mo_floats_14 : decode b_mo_floats 14 = .ok (.ireturn, 1) := by decide +kernel
theorem d_mo_floats_15 : decode b_mo_floats 15 = .ok (.aload_n 0, 1) := by decide +kernel
theorem d_mo_floats_16 : decode b_mo_floats 16 = .ok (.getfield 29, 3) := by decide +kernel
theorem d_mo_floats_19 : decode b_mo_floats 19 = .ok (.iload_n 1, 1) := by decide +kernel
theorem d_mo_floats_20 : decode b_mo_floats 20 = .ok (.baload, 1) := by decide +kernel
theorem d_mo_floats_21 : decode b_mo_floats 21 = .ok (.istore_n 3, 1) := by decide +kernel
theorem d_mo_floats_22 : decode b_mo_floats 22 = .ok (.aload_n 0, 1) := by decide +kernel
theorem d_mo_floats_23 : decode b_mo_floats 23 = .ok (.getfield 29, 3) := by decide +kernel
theorem d_mo_floats_26 : decode b_mo_floats 26 = .ok (.iload_n 1, 1) := by decide +kernel
theorem d_mo_floats_27 : decode b_mo_floats 27 = .ok (.iload_n 2, 1) := by decide +kernel
theorem d_mo_floats_28 : decode b_mo_floats 28 = .ok (.bastore, 1) := by decide +kernel
theorem d_mo_floats_29 : decode b_mo_floats 29 = .ok (.iload_n 3, 1) := by decide +kernel
theorem d_mo_floats_30 : decode b_mo_floats 30 = .ok (.ireturn, 1) := by decide +kernel
theorem d_mo_send_0 : decode b_mo_send 0 = .ok (.aload_n 0, 1) := by decide +kernel
theorem d_mo_send_1 : decode b_mo_send 1 = .ok (.iconst 0, 1) := by decide +kernel
theorem d_mo_send_2 : decode b_mo_send 2 = .ok (.putfield 38, 3) := by decide +kernel
theorem d_mo_send_5 : decode b_mo_send 5 = .ok (.aload_n 0, 1) := by decide +kernel
theorem d_mo_send_6 : decode b_mo_send 6 = .ok (.iload_n 1, 1) := by decide +kernel
theorem d_mo_send_7 : decode b_mo_send 7 = .ok (.invokevirtual 72, 3) := by decide +kernel
theorem d_mo_send_10 : decode b_mo_send 10 = .ok (.ifCond .eq 53, 3) := by decide +kernel
theorem d_mo_send_13 : decode b_mo_send 13 = .ok (.aload_n 0, 1) := by decide +kernel
theorem d_mo_send_14 : decode b_mo_send 14 = .ok (.iload_n 2, 1) := by decide +kernel
theorem d_mo_send_15 : decode b_mo_send 15 = .ok (.invokevirtual 55, 3) := by decide +kernel
theorem d_mo_send_18 : decode b_mo_send 18 = .ok (.ifCond .eq 45, 3) := by decide +kernel
theorem d_mo_send_21 : decode b_mo_send 21 = .ok (.iload_n 3, 1) := by decide +kernel
theorem d_mo_send_22 : decode b_mo_send 22 = .ok (.invokestatic 65, 3) := by decide +kernel
theorem d_mo_send_25 : decode b_mo_send 25 = .ok (.ifCond .eq 38, 3) := by decide +kernel
theorem d_mo_send_28 : decode b_mo_send 28 = .ok (.aload_n 0, 1) := by decide +kernel
theorem d_mo_send_29 : decode b_mo_send 29 = .ok (.getfield 23, 3) := by decide +kernel
theorem d_mo_send_32 : decode b_mo_send 32 = .ok (.iconst 3, 1) := by decide +kernel
theorem d_mo_send_33 : decode b_mo_send 33 = .ok (.iload_n 1, 1) := by decide +kernel
theorem d_mo_send_34 : decode b_mo_send 34 = .ok (.imul, 1) := by decide +kernel
theorem d_mo_send_35 : decode b_mo_send 35 = .ok (.iconst 2, 1) := by decide +kernel
theorem d_mo_send_36 : decode b_mo_send 36 = .ok (.iadd, 1) := by decide +kernel
theorem d_mo_send_37 : decode b_mo_send 37 = .ok (.iaload, 1) := by decide +kernel
theorem d_mo_send_38 : decode b_mo_send 38 = .ok (.ifCond .ne 25, 3) := by decide +kernel
theorem d_mo_send_41 : decode b_mo_send 41 = .ok (.aload_n 0, 1) := by decide +kernel
theorem d_mo_send_42 : decode b_mo_send 42 = .ok (.getfield 23, 3) := by decide +kernel
theorem d_mo_send_45 : decode b_mo_send 45 = .ok (.iconst 3, 1) := by decide +kernel
theorem d_mo_send_46 : decode b_mo_send 46 = .ok (.iload_n 1, 1) := by decide +kernel
theorem d_mo_send_47 : decode b_mo_send 47 = .ok (.imul, 1) := by decide +kernel
theorem d_mo_send_48 : decode b_mo_send 48 = .ok (.iaload, 1) := by decide +kernel
theorem d_mo_send_49 : decode b_mo_send 49 = .ok (.iload_n 2, 1) := by decide +kernel
theorem d_mo_send_50 : decode b_mo_send 50 = .ok (.if_icmp .eq 13, 3) := by decide +kernel
theorem d_mo_send_53 : decode b_mo_send 53 = .ok (.aload_n 0, 1) := by decide +kernel
theorem d_mo_send_54 : decode b_mo_send 54 = .ok (.getfield 51, 3) := by decide +kernel
theorem d_mo_send_57 : decode b_mo_send 57 = .ok (.sipush 150, 3) := by decide +kernel
theorem d_mo_send_60 : decode b_mo_send 60 = .ok (.if_icmp .ne 5, 3) := by decide +kernel
theorem d_mo_send_63 : decode b_mo_send 63 = .ok (.iconst 0, 1) := by decide +kernel
theorem d_mo_send_64 : decode b_mo_send 64 = .ok (.ireturn, 1) := by decide +kernel
theorem d_mo_send_65 : decode b_mo_send 65 = .ok (.aload_n 0, 1) := by decide +kernel
theorem d_mo_send_66 : decode b_mo_send 66 = .ok (.getfield 7, 3) := by decide +kernel
theorem d_mo_send_69 : decode b_mo_send 69 = .ok (.iload_n 2, 1) := by decide +kernel
theorem d_mo_send_70 : decode b_mo_send 70 = .ok (.baload, 1) := by decide +kernel
theorem d_mo_send_71 : decode b_mo_send 71 = .ok (.ifCond .eq 6, 3) := by decide +kernel
theorem d_mo_send_74 : decode b_mo_send 74 = .ok (.bipush (-2), 2) := by decide +kernel
theorem d_mo_send_76 : decode b_mo_send 76 = .ok (.ireturn, 1) := by decide +kernel
theorem d_mo_send_77 : decode b_mo_send 77 = .ok (.iconst (-1), 1) := by decide +kernel
theorem d_mo_send_78 : decode b_mo_send 78 = .ok (.istore 4, 2) := by decide +kernel
theorem d_mo_send_80 : decode b_mo_send 80 = .ok (.iconst 0, 1) := by decide +kernel
theorem d_mo_send_81 : decode b_mo_send 81 = .ok (.istore 5, 2) := by decide +kernel
theorem d_mo_send_83 : decode b_mo_send 83 = .ok (.iconst 0, 1) := by decide +kernel
theorem d_mo_send_84 : decode b_mo_send 84 = .ok (.istore 6, 2) := by decide +kernel
theorem d_mo_send_86 : decode b_mo_send 86 = .ok (.iload 6, 2) := by decide +kernel
theorem d_mo_send_88 : decode b_mo_send 88 = .ok (.aload_n 0, 1) := by decide +kernel
theorem d_mo_send_89 : decode b_mo_send 89 = .ok (.getfield 45, 3) := by decide +kernel
theorem d_mo_send_92 : decode b_mo_send 92 = .ok (.if_icmp .ge 142, 3) := by decide +kernel
theorem d_mo_send_95 : decode b_mo_send 95 = .ok (.aload_n 0, 1) := by decide +kernel
theorem d_mo_send_96 : decode b_mo_send 96 = .ok (.getfield 13, 3) := by decide +kernel
theorem d_mo_send_99 : decode b_mo_send 99 = .ok (.bipush 6, 2) := by decide +kernel
theorem d_mo_send_101 : decode b_mo_send 101 = .ok (.iload 6, 2) := by decide +kernel
theorem d_mo_send_103 : decode b_mo_send 103 = .ok (.imul, 1) := by decide +kernel
theorem d_mo_send_104 : decode b_mo_send 104 = .ok (.iaload, 1) := by decide +kernel
theorem d_mo_send_105 : decode b_mo_send 105 = .ok (.aload_n 0, 1) := by decide +kernel
theorem d_mo_send_106 : decode b_mo_send 106 = .ok (.getfield 23, 3) := by decide +kernel
theorem d_mo_send_109 : decode b_mo_send 109 = .ok (.iconst 3, 1) := by decide +kernel
theorem d_mo_send_110 : decode b_mo_send 110 = .ok (.iload_n 1, 1) := by decide +kernel
theorem d_mo_send_111 : decode b_mo_send 111 = .ok (.imul, 1) := by decide +kernel
theorem d_mo_send_112 : decode b_mo_send 112 = .ok (.iaload, 1) := by decide +kernel
theorem d_mo_send_113 : decode b_mo_send 113 = .ok (.if_icmp .ne 115, 3) := by decide +kernel
theorem d_mo_send_116 : decode b_mo_send 116 = .ok (.aload_n 0, 1) := by decide +kernel
theorem d_mo_send_117 : decode b_mo_send 117 = .ok (.getfield 13, 3) := by decide +kernel
theorem d_mo_send_120 : decode b_mo_send 120 = .ok (.bipush 6, 2) := by decide +kernel
theorem d_mo_send_122 : decode b_mo_send 122 = .ok (.iload 6, 2) := by decide +kernel
theorem d_mo_send_124 : decode b_mo_send 124 = .ok (.imul, 1) := by decide +kernel
theorem d_mo_send_125 : decode b_mo_send 125 = .ok (.iconst 1, 1) := by decide +kernel
theorem d_mo_send_126 : decode b_mo_send 126 = .ok (.iadd, 1) := by decide +kernel
theorem d_mo_send_127 : decode b_mo_send 127 = .ok (.iaload, 1) := by decide +kernel
theorem d_mo_send_128 : decode b_mo_send 128 = .ok (.iload_n 2, 1) := by decide +kernel
theorem d_mo_send_129 : decode b_mo_send 129 = .ok (.if_icmp .ne 99, 3) := by decide +kernel
theorem d_mo_send_132 : decode b_mo_send 132 = .ok (.aload_n 0, 1) := by decide +kernel
theorem d_mo_send_133 : decode b_mo_send 133 = .ok (.getfield 26, 3) := by decide +kernel
theorem d_mo_send_136 : decode b_mo_send 136 = .ok (.iload_n 1, 1) := by decide +kernel
theorem d_mo_send_137 : decode b_mo_send 137 = .ok (.baload, 1) := by decide +kernel
theorem d_mo_send_138 : decode b_mo_send 138 = .ok (.ifCond .eq 7, 3) := by decide +kernel
theorem d_mo_send_141 : decode b_mo_send 141 = .ok (.iload_n 3, 1) := by decide +kernel
theorem d_mo_send_142 : decode b_mo_send 142 = .ok (.goto 6, 3) := by decide +kernel
theorem d_mo_send_145 : decode b_mo_send 145 = .ok (.iload_n 3, 1) := by decide +kernel
theorem d_mo_send_146 : decode b_mo_send 146 = .ok (.iconst 1, 1) := by decide +kernel
theorem d_mo_send_147 : decode b_mo_send 147 = .ok (.iadd, 1) := by decide +kernel
theorem d_mo_send_148 : decode b_mo_send 148 = .ok (.istore 7, 2) := by decide +kernel
theorem d_mo_send_150 : decode b_mo_send 150 = .ok (.iload 7, 2) := by decide +kernel
theorem d_mo_send_152 : decode b_mo_send 152 = .ok (.ldc 54, 2) := by decide +kernel
theorem d_mo_send_154 : decode b_mo_send 154 = .ok (.if_icmp .ge 20, 3) := by decide +kernel
theorem d_mo_send_157 : decode b_mo_send 157 = .ok (.aload_n 0, 1) := by decide +kernel
theorem d_mo_send_158 : decode b_mo_send 158 = .ok (.iload 6, 2) := by decide +kernel
theorem d_mo_send_160 : decode b_mo_send 160 = .ok (.iload 7, 2) := by decide +kernel
theorem d_mo_send_162 : decode b_mo_send 162 = .ok (.invokevirtual 75, 3) := by decide +kernel
theorem d_mo_send_165 : decode b_mo_send 165 = .ok (.ifCond .ne 9, 3) := by decide +kernel
theorem d_mo_send_168 : decode b_mo_send 168 = .ok (.iinc 7 1, 3) := by decide +kernel
theorem d_mo_send_171 : decode b_mo_send 171 = .ok (.goto (-21), 3) := by decide +kernel
theorem d_mo_send_174 : decode b_mo_send 174 = .ok (.iload 7, 2) := by decide +kernel
theorem d_mo_send_176 : decode b_mo_send 176 = .ok (.ldc 54, 2) := by decide +kernel
theorem d_mo_send_178 : decode b_mo_send 178 = .ok (.if_icmp .ge 50, 3) := by decide +kernel
theorem d_mo_send_181 : decode b_mo_send 181 = .ok (.iload 4, 2) := by decide +kernel
theorem d_mo_send_183 : decode b_mo_send 183 = .ok (.iconst (-1), 1) := by decide +kernel
theorem d_mo_send_184 : decode b_mo_send 184 = .ok (.if_icmp .eq 36, 3) := by decide +kernel
theorem d_mo_send_187 : decode b_mo_send 187 = .ok (.iload 7, 2) := by decide +kernel
theorem d_mo_send_189 : decode b_mo_send 189 = .ok (.aload_n 0, 1) := by decide +kernel
theorem d_mo_send_190 : decode b_mo_send 190 = .ok (.getfield 13, 3) := by decide +kernel
theorem d_mo_send_193 : decode b_mo_send 193 = .ok (.bipush 6, 2) := by decide +kernel
theorem d_mo_send_195 : decode b_mo_send 195 = .ok (.iload 6, 2) := by decide +kernel
theorem d_mo_send_197 : decode b_mo_send 197 = .ok (.imul, 1) := by decide +kernel
theorem d_mo_send_198 : decode b_mo_send 198 = .ok (.iconst 3, 1) := by decide +kernel
theorem d_mo_send_199 : decode b_mo_send 199 = .ok (.iadd, 1) := by decide +kernel
theorem d_mo_send_200 : decode b_mo_send 200 = .ok (.iaload, 1) := by decide +kernel
theorem d_mo_send_201 : decode b_mo_send 201 = .ok (.iadd, 1) := by decide +kernel
theorem d_mo_send_202 : decode b_mo_send 202 = .ok (.iload 5, 2) := by decide +kernel
theorem d_mo_send_204 : decode b_mo_send 204 = .ok (.aload_n 0, 1) := by decide +kernel
theorem d_mo_send_205 : decode b_mo_send 205 = .ok (.getfield 13, 3) := by decide +kernel
theorem d_mo_send_208 : decode b_mo_send 208 = .ok (.bipush 6, 2) := by decide +kernel
theorem d_mo_send_210 : decode b_mo_send 210 = .ok (.iload 4, 2) := by decide +kernel
theorem d_mo_send_212 : decode b_mo_send 212 = .ok (.imul, 1) := by decide +kernel
theorem d_mo_send_213 : decode b_mo_send 213 = .ok (.iconst 3, 1) := by decide +kernel
theorem d_mo_send_214 : decode b_mo_send 214 = .ok (.iadd, 1) := by decide +kernel
theorem d_mo_send_215 : decode b_mo_send 215 = .ok (.iaload, 1) := by decide +kernel
theorem d_mo_send_216 : decode b_mo_send 216 = .ok (.iadd, 1) := by decide +kernel
theorem d_mo_send_217 : decode b_mo_send 217 = .ok (.if_icmp .ge 11, 3) := by decide +kernel
theorem d_mo_send_220 : decode b_mo_send 220 = .ok (.iload 6, 2) := by decide +kernel
theorem d_mo_send_222 : decode b_mo_send 222 = .ok (.istore 4, 2) := by decide +kernel
theorem d_mo_send_224 : decode b_mo_send 224 = .ok (.iload 7, 2) := by decide +kernel
theorem d_mo_send_226 : decode b_mo_send 226 = .ok (.istore 5, 2) := by decide +kernel
theorem d_mo_send_228 : decode b_mo_send 228 = .ok (.iinc 6 1, 3) := by decide +kernel
theorem d_mo_send_231 : decode b_mo_send 231 = .ok (.goto (-145), 3) := by decide +kernel
theorem d_mo_send_234 : decode b_mo_send 234 = .ok (.iload 4, 2) := by decide +kernel
theorem d_mo_send_236 : decode b_mo_send 236 = .ok (.iconst (-1), 1) := by decide +kernel
theorem d_mo_send_237 : decode b_mo_send 237 = .ok (.if_icmp .ne 6, 3) := by decide +kernel
theorem d_mo_send_240 : decode b_mo_send 240 = .ok (.bipush (-3), 2) := by decide +kernel
theorem d_mo_send_242 : decode b_mo_send 242 = .ok (.ireturn, 1) := by decide +kernel
theorem d_mo_send_243 : decode b_mo_send 243 = .ok (.aload_n 0, 1) := by decide +kernel
theorem d_mo_send_244 : decode b_mo_send 244 = .ok (.dup, 1) := by decide +kernel
theorem d_mo_send_245 : decode b_mo_send 245 = .ok (.getfield 51, 3) := by decide +kernel
theorem d_mo_send_248 : decode b_mo_send 248 = .ok (.iconst 1, 1) := by decide +kernel
theorem d_mo_send_249 : decode b_mo_send 249 = .ok (.iadd, 1) := by decide +kernel
theorem d_mo_send_250 : decode b_mo_send 250 = .ok (.putfield 51, 3) := by decide +kernel
theorem d_mo_send_253 : decode b_mo_send 253 = .ok (.bipush 8, 2) := by decide +kernel
theorem d_mo_send_255 : decode b_mo_send 255 = .ok (.aload_n 0, 1) := by decide +kernel
theorem d_mo_send_256 : decode b_mo_send 256 = .ok (.getfield 51, 3) := by decide +kernel
theorem d_mo_send_259 : decode b_mo_send 259 = .ok (.imul, 1) := by decide +kernel
theorem d_mo_send_260 : decode b_mo_send 260 = .ok (.istore 6, 2) := by decide +kernel
theorem d_mo_send_262 : decode b_mo_send 262 = .ok (.aload_n 0, 1) := by decide +kernel
theorem d_mo_send_263 : decode b_mo_send 263 = .ok (.getfield 32, 3) := by decide +kernel
theorem d_mo_send_266 : decode b_mo_send 266 = .ok (.iload 6, 2) := by decide +kernel
theorem d_mo_send_268 : decode b_mo_send 268 = .ok (.iload_n 1, 1) := by decide +kernel
theorem d_mo_send_269 : decode b_mo_send 269 = .ok (.iastore, 1) := by decide +kernel
theorem d_mo_send_270 : decode b_mo_send 270 = .ok (.aload_n 0, 1) := by decide +kernel
theorem d_mo_send_271 : decode b_mo_send 271 = .ok (.getfield 32, 3) := by decide +kernel
theorem d_mo_send_274 : decode b_mo_send 274 = .ok (.iload 6, 2) := by decide +kernel
theorem d_mo_send_276 : decode b_mo_send 276 = .ok (.iconst 1, 1) := by decide +kernel
theorem d_mo_send_277 : decode b_mo_send 277 = .ok (.iadd, 1) := by decide +kernel
theorem d_mo_send_278 : decode b_mo_send 278 = .ok (.iload 4, 2) := by decide +kernel
theorem d_mo_send_280 : decode b_mo_send 280 = .ok (.iastore, 1) := by decide +kernel
theorem d_mo_send_281 : decode b_mo_send 281 = .ok (.aload_n 0, 1) := by decide +kernel
theorem d_mo_send_282 : decode b_mo_send 282 = .ok (.getfield 32, 3) := by decide +kernel
theorem d_mo_send_285 : decode b_mo_send 285 = .ok (.iload 6, 2) := by decide +kernel
theorem d_mo_send_287 : decode b_mo_send 287 = .ok (.iconst 3, 1) := by decide +kernel
theorem d_mo_send_288 : decode b_mo_send 288 = .ok (.iadd, 1) := by decide +kernel
theorem d_mo_send_289 : decode b_mo_send 289 = .ok (.iload_n 3, 1) := by decide +kernel
theorem d_mo_send_290 : decode b_mo_send 290 = .ok (.iastore, 1) := by decide +kernel
theorem d_mo_send_291 : decode b_mo_send 291 = .ok (.aload_n 0, 1) := by decide +kernel
theorem d_mo_send_292 : decode b_mo_send 292 = .ok (.getfield 32, 3) := by decide +kernel
theorem d_mo_send_295 : decode b_mo_send 295 = .ok (.iload 6, 2) := by decide +kernel
theorem d_mo_send_297 : decode b_mo_send 297 = .ok (.iconst 4, 1) := by decide +kernel
theorem d_mo_send_298 : decode b_mo_send 298 = .ok (.iadd, 1) := by decide +kernel
theorem d_mo_send_299 : decode b_mo_send 299 = .ok (.iload 5, 2) := by decide +kernel
theorem d_mo_send_301 : decode b_mo_send 301 = .ok (.iastore, 1) := by decide +kernel
theorem d_mo_send_302 : decode b_mo_send 302 = .ok (.aload_n 0, 1) := by decide +kernel
theorem d_mo_send_303 : decode b_mo_send 303 = .ok (.getfield 32, 3) := by decide +kernel
theorem d_mo_send_306 : decode b_mo_send 306 = .ok (.iload 6, 2) := by decide +kernel
theorem d_mo_send_308 : decode b_mo_send 308 = .ok (.iconst 5, 1) := by decide +kernel
theorem d_mo_send_309 : decode b_mo_send 309 = .ok (.iadd, 1) := by decide +kernel
theorem d_mo_send_310 : decode b_mo_send 310 = .ok (.iconst (-1), 1) := by decide +kernel
theorem d_mo_send_311 : decode b_mo_send 311 = .ok (.iastore, 1) := by decide +kernel
theorem d_mo_send_312 : decode b_mo_send 312 = .ok (.aload_n 0, 1) := by decide +kernel
theorem d_mo_send_313 : decode b_mo_send 313 = .ok (.getfield 23, 3) := by decide +kernel
theorem d_mo_send_316 : decode b_mo_send 316 = .ok (.iconst 3, 1) := by decide +kernel
theorem d_mo_send_317 : decode b_mo_send 317 = .ok (.iload_n 1, 1) := by decide +kernel
theorem d_mo_send_318 : decode b_mo_send 318 = .ok (.imul, 1) := by decide +kernel
theorem d_mo_send_319 : decode b_mo_send 319 = .ok (.iconst (-1), 1) := by decide +kernel
theorem d_mo_send_320 : decode b_mo_send 320 = .ok (.iastore, 1) := by decide +kernel
theorem d_mo_send_321 : decode b_mo_send 321 = .ok (.aload_n 0, 1) := by decide +kernel
theorem d_mo_send_322 : decode b_mo_send 322 = .ok (.getfield 23, 3) := by decide +kernel
theorem d_mo_send_325 : decode b_mo_send 325 = .ok (.iconst 3, 1) := by decide +kernel
theorem d_mo_send_326 : decode b_mo_send 326 = .ok (.iload_n 1, 1) := by decide +kernel
theorem d_mo_send_327 : decode b_mo_send 327 = .ok (.imul, 1) := by decide +kernel
theorem d_mo_send_328 : decode b_mo_send 328 = .ok (.iconst 2, 1) := by decide +kernel
theorem d_mo_send_329 : decode b_mo_send 329 = .ok (.iadd, 1) := by decide +kernel
theorem d_mo_send_330 : decode b_mo_send 330 = .ok (.aload_n 0, 1) := by decide +kernel
theorem d_mo_send_331 : decode b_mo_send 331 = .ok (.getfield 51, 3) := by decide +kernel
theorem d_mo_send_334 : decode b_mo_send 334 = .ok (.iastore, 1) := by decide +kernel
theorem d_mo_send_335 : decode b_mo_send 335 = .ok (.aload_n 0, 1) := by decide +kernel
theorem d_mo_send_336 : decode b_mo_send 336 = .ok (.getfield 51, 3) := by decide +kernel
theorem d_mo_send_339 : decode b_mo_send 339 = .ok (.ireturn, 1) := by decide +kernel
theorem d_mo_runs_0 : decode b_mo_runs 0 = .ok (.aload_n 0, 1) := by decide +kernel
theorem d_mo_runs_1 : decode b_mo_runs 1 = .ok (.getfield 13, 3) := by decide +kernel
theorem d_mo_runs_4 : decode b_mo_runs 4 = .ok (.bipush 6, 2) := by decide +kernel
theorem d_mo_runs_6 : decode b_mo_runs 6 = .ok (.iload_n 1, 1) := by decide +kernel
theorem d_mo_runs_7 : decode b_mo_runs 7 = .ok (.imul, 1) := by decide +kernel
theorem d_mo_runs_8 : decode b_mo_runs 8 = .ok (.iconst 2, 1) := by decide +kernel
theorem d_mo_runs_9 : decode b_mo_runs 9 = .ok (.iadd, 1) := by decide +kernel
theorem d_mo_runs_10 : decode b_mo_runs 10 = .ok (.iaload, 1) := by decide +kernel
theorem d_mo_runs_11 : decode b_mo_runs 11 = .ok (.iload_n 2, 1) := by decide +kernel
theorem d_mo_runs_12 : decode b_mo_runs 12 = .ok (.bipush 7, 2) := by decide +kernel
theorem d_mo_runs_14 : decode b_mo_runs 14 = .ok (.irem, 1) := by decide +kernel
theorem d_mo_runs_15 : decode b_mo_runs 15 = .ok (.ishr, 1) := by decide +kernel
theorem d_mo_runs_16 : decode b_mo_runs 16 = .ok (.iconst 1, 1) := by decide +kernel
theorem d_mo_runs_17 : decode b_mo_runs 17 = .ok (.iand, 1) := by decide +kernel
theorem d_mo_runs_18 : decode b_mo_runs 18 = .ok (.iconst 1, 1) := by decide +kernel
theorem d_mo_runs_19 : decode b_mo_runs 19 = .ok (.if_icmp .ne 17, 3) := by decide +kernel
theorem d_mo_runs_22 : decode b_mo_runs 22 = .ok (.aload_n 0, 1) := by decide +kernel
theorem d_mo_runs_23 : decode b_mo_runs 23 = .ok (.iload_n 1, 1) := by decide +kernel
theorem d_mo_runs_24 : decode b_mo_runs 24 = .ok (.iload_n 2, 1) := by decide +kernel
theorem d_mo_runs_25 : decode b_mo_runs 25 = .ok (.invokevirtual 68, 3) := by decide +kernel
theorem d_mo_runs_28 : decode b_mo_runs 28 = .ok (.iconst (-1), 1) := by decide +kernel
theorem d_mo_runs_29 : decode b_mo_runs 29 = .ok (.if_icmp .ne 7, 3) := by decide +kernel
theorem d_mo_runs_32 : decode b_mo_runs 32 = .ok (.iconst 1, 1) := by decide +kernel
theorem d_mo_runs_33 : decode b_mo_runs 33 = .ok (.goto 4, 3) := by decide +kernel
theorem d_mo_runs_36 : decode b_mo_runs 36 = .ok (.iconst 0, 1) := by decide +kernel
theorem d_mo_runs_37 : decode b_mo_runs 37 = .ok (.ireturn, 1) := by decide +kernel
theorem d_mo_back_0 : decode b_mo_back 0 = .ok (.aload_n 0, 1) := by decide +kernel
theorem d_mo_back_1 : decode b_mo_back 1 = .ok (.iconst 0, 1) := by decide +kernel
theorem d_mo_back_2 : decode b_mo_back 2 = .ok (.putfield 38, 3) := by decide +kernel
theorem d_mo_back_5 : decode b_mo_back 5 = .ok (.aload_n 0, 1) := by decide +kernel
theorem d_mo_back_6 : decode b_mo_back 6 = .ok (.iload_n 1, 1) := by decide +kernel
theorem d_mo_back_7 : decode b_mo_back 7 = .ok (.invokevirtual 79, 3) := by decide +kernel
theorem d_mo_back_10 : decode b_mo_back 10 = .ok (.ifCond .eq 17, 3) := by decide +kernel
theorem d_mo_back_13 : decode b_mo_back 13 = .ok (.aload_n 0, 1) := by decide +kernel
theorem d_mo_back_14 : decode b_mo_back 14 = .ok (.getfield 32, 3) := by decide +kernel
theorem d_mo_back_17 : decode b_mo_back 17 = .ok (.bipush 8, 2) := by decide +kernel
theorem d_mo_back_19 : decode b_mo_back 19 = .ok (.iload_n 1, 1) := by decide +kernel
theorem d_mo_back_20 : decode b_mo_back 20 = .ok (.imul, 1) := by decide +kernel
theorem d_mo_back_21 : decode b_mo_back 21 = .ok (.iconst 2, 1) := by decide +kernel
theorem d_mo_back_22 : decode b_mo_back 22 = .ok (.iadd, 1) := by decide +kernel
theorem d_mo_back_23 : decode b_mo_back 23 = .ok (.iaload, 1) := by decide +kernel
theorem d_mo_back_24 : decode b_mo_back 24 = .ok (.ifCond .eq 5, 3) := by decide +kernel
theorem d_mo_back_27 : decode b_mo_back 27 = .ok (.iconst 0, 1) := by decide +kernel
theorem d_mo_back_28 : decode b_mo_back 28 = .ok (.ireturn, 1) := by decide +kernel
theorem d_mo_back_29 : decode b_mo_back 29 = .ok (.aload_n 0, 1) := by decide +kernel
theorem d_mo_back_30 : decode b_mo_back 30 = .ok (.getfield 32, 3) := by decide +kernel
theorem d_mo_back_33 : decode b_mo_back 33 = .ok (.bipush 8, 2) := by decide +kernel
theorem d_mo_back_35 : decode b_mo_back 35 = .ok (.iload_n 1, 1) := by decide +kernel
theorem d_mo_back_36 : decode b_mo_back 36 = .ok (.imul, 1) := by decide +kernel
theorem d_mo_back_37 : decode b_mo_back 37 = .ok (.iconst 2, 1) := by decide +kernel
theorem d_mo_back_38 : decode b_mo_back 38 = .ok (.iadd, 1) := by decide +kernel
theorem d_mo_back_39 : decode b_mo_back 39 = .ok (.iconst 5, 1) := by decide +kernel
theorem d_mo_back_40 : decode b_mo_back 40 = .ok (.iastore, 1) := by decide +kernel
theorem d_mo_back_41 : decode b_mo_back 41 = .ok (.aload_n 0, 1) := by decide +kernel
theorem d_mo_back_42 : decode b_mo_back 42 = .ok (.getfield 32, 3) := by decide +kernel
theorem d_mo_back_45 : decode b_mo_back 45 = .ok (.bipush 8, 2) := by decide +kernel
theorem d_mo_back_47 : decode b_mo_back 47 = .ok (.iload_n 1, 1) := by decide +kernel
theorem d_mo_back_48 : decode b_mo_back 48 = .ok (.imul, 1) := by decide +kernel
theorem d_mo_back_49 : decode b_mo_back 49 = .ok (.iaload, 1) := by decide +kernel
theorem d_mo_back_50 : decode b_mo_back 50 = .ok (.istore_n 2, 1) := by decide +kernel
theorem d_mo_back_51 : decode b_mo_back 51 = .ok (.aload_n 0, 1) := by decide +kernel
theorem d_mo_back_52 : decode b_mo_back 52 = .ok (.getfield 23, 3) := by decide +kernel
theorem d_mo_back_55 : decode b_mo_back 55 = .ok (.iconst 3, 1) := by decide +kernel
theorem d_mo_back_56 : decode b_mo_back 56 = .ok (.iload_n 2, 1) := by decide +kernel
theorem d_mo_back_57 : decode b_mo_back 57 = .ok (.imul, 1) := by decide +kernel
theorem d_mo_back_58 : decode b_mo_back 58 = .ok (.aload_n 0, 1) := by decide +kernel
theorem d_mo_back_59 : decode b_mo_back 59 = .ok (.getfield 13, 3) := by decide +kernel
theorem d_mo_back_62 : decode b_mo_back 62 = .ok (.bipush 6, 2) := by decide +kernel
theorem d_mo_back_64 : decode b_mo_back 64 = .ok (.aload_n 0, 1) := by decide +kernel
theorem d_mo_back_65 : decode b_mo_back 65 = .ok (.getfield 32, 3) := by decide +kernel
theorem d_mo_back_68 : decode b_mo_back 68 = .ok (.bipush 8, 2) := by decide +kernel
theorem d_mo_back_70 : decode b_mo_back 70 = .ok (.iload_n 1, 1) := by decide +kernel
theorem d_mo_back_71 : decode b_mo_back 71 = .ok (.imul, 1) := by decide +kernel
theorem d_mo_back_72 : decode b_mo_back 72 = .ok (.iconst 1, 1) := by decide +kernel
theorem d_mo_back_73 : decode b_mo_back 73 = .ok (.iadd, 1) := by decide +kernel
theorem d_mo_back_74 : decode b_mo_back 74 = .ok (.iaload, 1) := by decide +kernel
theorem d_mo_back_75 : decode b_mo_back 75 = .ok (.imul, 1) := by decide +kernel
theorem d_mo_back_76 : decode b_mo_back 76 = .ok (.iaload, 1) := by decide +kernel
theorem d_mo_back_77 : decode b_mo_back 77 = .ok (.iastore, 1) := by decide +kernel
theorem d_mo_back_78 : decode b_mo_back 78 = .ok (.aload_n 0, 1) := by decide +kernel
theorem d_mo_back_79 : decode b_mo_back 79 = .ok (.getfield 23, 3) := by decide +kernel
theorem d_mo_back_82 : decode b_mo_back 82 = .ok (.iconst 3, 1) := by decide +kernel
theorem d_mo_back_83 : decode b_mo_back 83 = .ok (.iload_n 2, 1) := by decide +kernel
theorem d_mo_back_84 : decode b_mo_back 84 = .ok (.imul, 1) := by decide +kernel
theorem d_mo_back_85 : decode b_mo_back 85 = .ok (.iconst 2, 1) := by decide +kernel
theorem d_mo_back_86 : decode b_mo_back 86 = .ok (.iadd, 1) := by decide +kernel
theorem d_mo_back_87 : decode b_mo_back 87 = .ok (.iconst 0, 1) := by decide +kernel
theorem d_mo_back_88 : decode b_mo_back 88 = .ok (.iastore, 1) := by decide +kernel
theorem d_mo_back_89 : decode b_mo_back 89 = .ok (.iconst 1, 1) := by decide +kernel
theorem d_mo_back_90 : decode b_mo_back 90 = .ok (.ireturn, 1) := by decide +kernel
theorem d_mo_isSlip_0 : decode b_mo_isSlip 0 = .ok (.iload_n 1, 1) := by decide +kernel
theorem d_mo_isSlip_1 : decode b_mo_isSlip 1 = .ok (.ifCond .le 15, 3) := by decide +kernel
theorem d_mo_isSlip_4 : decode b_mo_isSlip 4 = .ok (.iload_n 1, 1) := by decide +kernel
theorem d_mo_isSlip_5 : decode b_mo_isSlip 5 = .ok (.aload_n 0, 1) := by decide +kernel
theorem d_mo_isSlip_6 : decode b_mo_isSlip 6 = .ok (.getfield 51, 3) := by decide +kernel
theorem d_mo_isSlip_9 : decode b_mo_isSlip 9 = .ok (.if_icmp .gt 7, 3) := by decide +kernel
theorem d_mo_isSlip_12 : decode b_mo_isSlip 12 = .ok (.iconst 1, 1) := by decide +kernel
theorem d_mo_isSlip_13 : decode b_mo_isSlip 13 = .ok (.goto 4, 3) := by decide +kernel
theorem d_mo_isSlip_16 : decode b_mo_isSlip 16 = .ok (.iconst 0, 1) := by decide +kernel
theorem d_mo_isSlip_17 : decode b_mo_isSlip 17 = .ok (.ireturn, 1) := by decide +kernel
theorem d_mo_bin_0 : decode b_mo_bin 0 = .ok (.aload_n 0, 1) := by decide +kernel
theorem d_mo_bin_1 : decode b_mo_bin 1 = .ok (.iconst 0, 1) := by decide +kernel
theorem d_mo_bin_2 : decode b_mo_bin 2 = .ok (.putfield 38, 3) := by decide +kernel
theorem d_mo_bin_5 : decode b_mo_bin 5 = .ok (.iconst 1, 1) := by decide +kernel
theorem d_mo_bin_6 : decode b_mo_bin 6 = .ok (.istore 4, 2) := by decide +kernel
theorem d_mo_bin_8 : decode b_mo_bin 8 = .ok (.iload 4, 2) := by decide +kernel
theorem d_mo_bin_10 : decode b_mo_bin 10 = .ok (.aload_n 0, 1) := by decide +kernel
theorem d_mo_bin_11 : decode b_mo_bin 11 = .ok (.getfield 51, 3) := by decide +kernel
theorem d_mo_bin_14 : decode b_mo_bin 14 = .ok (.if_icmp .gt 86, 3) := by decide +kernel
theorem d_mo_bin_17 : decode b_mo_bin 17 = .ok (.iload_n 3, 1) := by decide +kernel
theorem d_mo_bin_18 : decode b_mo_bin 18 = .ok (.ifCond .lt 82, 3) := by decide +kernel
theorem d_mo_bin_21 : decode b_mo_bin 21 = .ok (.aload_n 0, 1) := by decide +kernel
theorem d_mo_bin_22 : decode b_mo_bin 22 = .ok (.iload 4, 2) := by decide +kernel
theorem d_mo_bin_24 : decode b_mo_bin 24 = .ok (.iload_n 1, 1) := by decide +kernel
theorem d_mo_bin_25 : decode b_mo_bin 25 = .ok (.iload_n 2, 1) := by decide +kernel
theorem d_mo_bin_26 : decode b_mo_bin 26 = .ok (.invokevirtual 82, 3) := by decide +kernel
theorem d_mo_bin_29 : decode b_mo_bin 29 = .ok (.ifCond .eq 65, 3) := by decide +kernel
theorem d_mo_bin_32 : decode b_mo_bin 32 = .ok (.iconst 0, 1) := by decide +kernel
theorem d_mo_bin_33 : decode b_mo_bin 33 = .ok (.istore 5, 2) := by decide +kernel
theorem d_mo_bin_35 : decode b_mo_bin 35 = .ok (.iconst 1, 1) := by decide +kernel
theorem d_mo_bin_36 : decode b_mo_bin 36 = .ok (.istore 6, 2) := by decide +kernel
theorem d_mo_bin_38 : decode b_mo_bin 38 = .ok (.iload 6, 2) := by decide +kernel
theorem d_mo_bin_40 : decode b_mo_bin 40 = .ok (.aload_n 0, 1) := by decide +kernel
theorem d_mo_bin_41 : decode b_mo_bin 41 = .ok (.getfield 51, 3) := by decide +kernel
theorem d_mo_bin_44 : decode b_mo_bin 44 = .ok (.if_icmp .gt 41, 3) := by decide +kernel
theorem d_mo_bin_47 : decode b_mo_bin 47 = .ok (.iload 5, 2) := by decide +kernel
theorem d_mo_bin_49 : decode b_mo_bin 49 = .ok (.aload_n 0, 1) := by decide +kernel
theorem d_mo_bin_50 : decode b_mo_bin 50 = .ok (.iload 6, 2) := by decide +kernel
theorem d_mo_bin_52 : decode b_mo_bin 52 = .ok (.iload_n 1, 1) := by decide +kernel
theorem d_mo_bin_53 : decode b_mo_bin 53 = .ok (.iload_n 2, 1) := by decide +kernel
theorem d_mo_bin_54 : decode b_mo_bin 54 = .ok (.invokevirtual 82, 3) := by decide +kernel
theorem d_mo_bin_57 : decode b_mo_bin 57 = .ok (.ifCond .eq 18, 3) := by decide +kernel
theorem d_mo_bin_60 : decode b_mo_bin 60 = .ok (.aload_n 0, 1) := by decide +kernel
theorem d_mo_bin_61 : decode b_mo_bin 61 = .ok (.iload 6, 2) := by decide +kernel
theorem d_mo_bin_63 : decode b_mo_bin 63 = .ok (.iload 4, 2) := by decide +kernel
theorem d_mo_bin_65 : decode b_mo_bin 65 = .ok (.invokevirtual 86, 3) := by decide +kernel
theorem d_mo_bin_68 : decode b_mo_bin 68 = .ok (.ifCond .eq 7, 3) := by decide +kernel
theorem d_mo_bin_71 : decode b_mo_bin 71 = .ok (.iconst 1, 1) := by decide +kernel
theorem d_mo_bin_72 : decode b_mo_bin 72 = .ok (.goto 4, 3) := by decide +kernel
theorem d_mo_bin_75 : decode b_mo_bin 75 = .ok (.iconst 0, 1) := by decide +kernel
theorem d_mo_bin_76 : decode b_mo_bin 76 = .ok (.iadd, 1) := by decide +kernel
theorem d_mo_bin_77 : decode b_mo_bin 77 = .ok (.istore 5, 2) := by decide +kernel
theorem d_mo_bin_79 : decode b_mo_bin 79 = .ok (.iinc 6 1, 3) := by decide +kernel
theorem d_mo_bin_82 : decode b_mo_bin 82 = .ok (.goto (-44), 3) := by decide +kernel
theorem d_mo_bin_85 : decode b_mo_bin 85 = .ok (.iload 5, 2) := by decide +kernel
theorem d_mo_bin_87 : decode b_mo_bin 87 = .ok (.iload_n 3, 1) := by decide +kernel
theorem d_mo_bin_88 : decode b_mo_bin 88 = .ok (.if_icmp .ne 6, 3) := by decide +kernel
theorem d_mo_bin_91 : decode b_mo_bin 91 = .ok (.iload 4, 2) := by decide +kernel
theorem d_mo_bin_93 : decode b_mo_bin 93 = .ok (.ireturn, 1) := by decide +kernel
theorem d_mo_bin_94 : decode b_mo_bin 94 = .ok (.iinc 4 1, 3) := by decide +kernel
theorem d_mo_bin_97 : decode b_mo_bin 97 = .ok (.goto (-89), 3) := by decide +kernel
theorem d_mo_bin_100 : decode b_mo_bin 100 = .ok (.iconst 0, 1) := by decide +kernel
theorem d_mo_bin_101 : decode b_mo_bin 101 = .ok (.ireturn, 1) := by decide +kernel
theorem d_mo_isIn_0 : decode b_mo_isIn 0 = .ok (.aload_n 0, 1) := by decide +kernel
theorem d_mo_isIn_1 : decode b_mo_isIn 1 = .ok (.getfield 32, 3) := by decide +kernel
theorem d_mo_isIn_4 : decode b_mo_isIn 4 = .ok (.bipush 8, 2) := by decide +kernel
theorem d_mo_isIn_6 : decode b_mo_isIn 6 = .ok (.iload_n 1, 1) := by decide +kernel
theorem d_mo_isIn_7 : decode b_mo_isIn 7 = .ok (.imul, 1) := by decide +kernel
theorem d_mo_isIn_8 : decode b_mo_isIn 8 = .ok (.iconst 1, 1) := by decide +kernel
theorem d_mo_isIn_9 : decode b_mo_isIn 9 = .ok (.iadd, 1) := by decide +kernel
theorem d_mo_isIn_10 : decode b_mo_isIn 10 = .ok (.iaload, 1) := by decide +kernel
theorem d_mo_isIn_11 : decode b_mo_isIn 11 = .ok (.istore 4, 2) := by decide +kernel
theorem d_mo_isIn_13 : decode b_mo_isIn 13 = .ok (.aload_n 0, 1) := by decide +kernel
theorem d_mo_isIn_14 : decode b_mo_isIn 14 = .ok (.getfield 32, 3) := by decide +kernel
theorem d_mo_isIn_17 : decode b_mo_isIn 17 = .ok (.bipush 8, 2) := by decide +kernel
theorem d_mo_isIn_19 : decode b_mo_isIn 19 = .ok (.iload_n 1, 1) := by decide +kernel
theorem d_mo_isIn_20 : decode b_mo_isIn 20 = .ok (.imul, 1) := by decide +kernel
theorem d_mo_isIn_21 : decode b_mo_isIn 21 = .ok (.iconst 2, 1) := by decide +kernel
theorem d_mo_isIn_22 : decode b_mo_isIn 22 = .ok (.iadd, 1) := by decide +kernel
theorem d_mo_isIn_23 : decode b_mo_isIn 23 = .ok (.iaload, 1) := by decide +kernel
theorem d_mo_isIn_24 : decode b_mo_isIn 24 = .ok (.ifCond .ne 37, 3) := by decide +kernel
theorem d_mo_isIn_27 : decode b_mo_isIn 27 = .ok (.aload_n 0, 1) := by decide +kernel
theorem d_mo_isIn_28 : decode b_mo_isIn 28 = .ok (.getfield 13, 3) := by decide +kernel
theorem d_mo_isIn_31 : decode b_mo_isIn 31 = .ok (.bipush 6, 2) := by decide +kernel
theorem d_mo_isIn_33 : decode b_mo_isIn 33 = .ok (.iload 4, 2) := by decide +kernel
theorem d_mo_isIn_35 : decode b_mo_isIn 35 = .ok (.imul, 1) := by decide +kernel
theorem d_mo_isIn_36 : decode b_mo_isIn 36 = .ok (.iaload, 1) := by decide +kernel
theorem d_mo_isIn_37 : decode b_mo_isIn 37 = .ok (.iload_n 2, 1) := by decide +kernel
theorem d_mo_isIn_38 : decode b_mo_isIn 38 = .ok (.if_icmp .ne 23, 3) := by decide +kernel
theorem d_mo_isIn_41 : decode b_mo_isIn 41 = .ok (.aload_n 0, 1) := by decide +kernel
theorem d_mo_isIn_42 : decode b_mo_isIn 42 = .ok (.getfield 13, 3) := by decide +kernel
theorem d_mo_isIn_45 : decode b_mo_isIn 45 = .ok (.bipush 6, 2) := by decide +kernel
theorem d_mo_isIn_47 : decode b_mo_isIn 47 = .ok (.iload 4, 2) := by decide +kernel
theorem d_mo_isIn_49 : decode b_mo_isIn 49 = .ok (.imul, 1) := by decide +kernel
theorem d_mo_isIn_50 : decode b_mo_isIn 50 = .ok (.iconst 1, 1) := by decide +kernel
theorem d_mo_isIn_51 : decode b_mo_isIn 51 = .ok (.iadd, 1) := by decide +kernel
theorem d_mo_isIn_52 : decode b_mo_isIn 52 = .ok (.iaload, 1) := by decide +kernel
theorem d_mo_isIn_53 : decode b_mo_isIn 53 = .ok (.iload_n 3, 1) := by decide +kernel
theorem d_mo_isIn_54 : decode b_mo_isIn 54 = .ok (.if_icmp .ne 7, 3) := by decide +kernel
theorem d_mo_isIn_57 : decode b_mo_isIn 57 = .ok (.iconst 1, 1) := by decide +kernel
theorem d_mo_isIn_58 : decode b_mo_isIn 58 = .ok (.goto 4, 3) := by decide +kernel
theorem d_mo_isIn_61 : decode b_mo_isIn 61 = .ok (.iconst 0, 1) := by decide +kernel
theorem d_mo_isIn_62 : decode b_mo_isIn 62 = .ok (.ireturn, 1) := by decide +kernel
theorem d_mo_isBefore_0 : decode b_mo_isBefore 0 = .ok (.aload_n 0, 1) := by decide +kernel
theorem d_mo_isBefore_1 : decode b_mo_isBefore 1 = .ok (.getfield 26, 3) := by decide +kernel
theorem d_mo_isBefore_4 : decode b_mo_isBefore 4 = .ok (.aload_n 0, 1) := by decide +kernel
theorem d_mo_isBefore_5 : decode b_mo_isBefore 5 = .ok (.getfield 32, 3) := by decide +kernel
theorem d_mo_isBefore_8 : decode b_mo_isBefore 8 = .ok (.bipush 8, 2) := by decide +kernel
theorem d_mo_isBefore_10 : decode b_mo_isBefore 10 = .ok (.iload_n 1, 1) := by decide +kernel
theorem d_mo_isBefore_11 : decode b_mo_isBefore 11 = .ok (.imul, 1) := by decide +kernel
theorem d_mo_isBefore_12 : decode b_mo_isBefore 12 = .ok (.iaload, 1) := by decide +kernel
theorem d_mo_isBefore_13 : decode b_mo_isBefore 13 = .ok (.baload, 1) := by decide +kernel
theorem d_mo_isBefore_14 : decode b_mo_isBefore 14 = .ok (.istore_n 3, 1) := by decide +kernel
theorem d_mo_isBefore_15 : decode b_mo_isBefore 15 = .ok (.aload_n 0, 1) := by decide +kernel
theorem d_mo_isBefore_16 : decode b_mo_isBefore 16 = .ok (.getfield 26, 3) := by decide +kernel
theorem d_mo_isBefore_19 : decode b_mo_isBefore 19 = .ok (.aload_n 0, 1) := by decide +kernel
theorem d_mo_isBefore_20 : decode b_mo_isBefore 20 = .ok (.getfield 32, 3) := by decide +kernel
theorem d_mo_isBefore_23 : decode b_mo_isBefore 23 = .ok (.bipush 8, 2) := by decide +kernel
theorem d_mo_isBefore_25 : decode b_mo_isBefore 25 = .ok (.iload_n 2, 1) := by decide +kernel
theorem d_mo_isBefore_26 : decode b_mo_isBefore 26 = .ok (.imul, 1) := by decide +kernel
theorem d_mo_isBefore_27 : decode b_mo_isBefore 27 = .ok (.iaload, 1) := by decide +kernel
theorem d_mo_isBefore_28 : decode b_mo_isBefore 28 = .ok (.baload, 1) := by decide +kernel
theorem d_mo_isBefore_29 : decode b_mo_isBefore 29 = .ok (.istore 4, 2) := by decide +kernel
theorem d_mo_isBefore_31 : decode b_mo_isBefore 31 = .ok (.iload_n 3, 1) := by decide +kernel
theorem d_mo_isBefore_32 : decode b_mo_isBefore 32 = .ok (.iload 4, 2) := by decide +kernel
theorem d_mo_isBefore_34 : decode b_mo_isBefore 34 = .ok (.if_icmp .eq 5, 3) := by decide +kernel
theorem d_mo_isBefore_37 : decode b_mo_isBefore 37 = .ok (.iload_n 3, 1) := by decide +kernel
theorem d_mo_isBefore_38 : decode b_mo_isBefore 38 = .ok (.ireturn, 1) := by decide +kernel
theorem d_mo_isBefore_39 : decode b_mo_isBefore 39 = .ok (.aload_n 0, 1) := by decide +kernel
theorem d_mo_isBefore_40 : decode b_mo_isBefore 40 = .ok (.getfield 32, 3) := by decide +kernel
theorem d_mo_isBefore_43 : decode b_mo_isBefore 43 = .ok (.bipush 8, 2) := by decide +kernel
theorem d_mo_isBefore_45 : decode b_mo_isBefore 45 = .ok (.iload_n 1, 1) := by decide +kernel
theorem d_mo_isBefore_46 : decode b_mo_isBefore 46 = .ok (.imul, 1) := by decide +kernel
theorem d_mo_isBefore_47 : decode b_mo_isBefore 47 = .ok (.iconst 4, 1) := by decide +kernel
theorem d_mo_isBefore_48 : decode b_mo_isBefore 48 = .ok (.iadd, 1) := by decide +kernel
theorem d_mo_isBefore_49 : decode b_mo_isBefore 49 = .ok (.iaload, 1) := by decide +kernel
theorem d_mo_isBefore_50 : decode b_mo_isBefore 50 = .ok (.istore 5, 2) := by decide +kernel
theorem d_mo_isBefore_52 : decode b_mo_isBefore 52 = .ok (.aload_n 0, 1) := by decide +kernel
theorem d_mo_isBefore_53 : decode b_mo_isBefore 53 = .ok (.getfield 32, 3) := by decide +kernel
theorem d_mo_isBefore_56 : decode b_mo_isBefore 56 = .ok (.bipush 8, 2) := by decide +kernel
theorem d_mo_isBefore_58 : decode b_mo_isBefore 58 = .ok (.iload_n 2, 1) := by decide +kernel
theorem d_mo_isBefore_59 : decode b_mo_isBefore 59 = .ok (.imul, 1) := by decide +kernel
theorem d_mo_isBefore_60 : decode b_mo_isBefore 60 = .ok (.iconst 4, 1) := by decide +kernel
theorem d_mo_isBefore_61 : decode b_mo_isBefore 61 = .ok (.iadd, 1) := by decide +kernel
theorem d_mo_isBefore_62 : decode b_mo_isBefore 62 = .ok (.iaload, 1) := by decide +kernel
theorem d_mo_isBefore_63 : decode b_mo_isBefore 63 = .ok (.istore 6, 2) := by decide +kernel
theorem d_mo_isBefore_65 : decode b_mo_isBefore 65 = .ok (.iload 5, 2) := by decide +kernel
theorem d_mo_isBefore_67 : decode b_mo_isBefore 67 = .ok (.iload 6, 2) := by decide +kernel
theorem d_mo_isBefore_69 : decode b_mo_isBefore 69 = .ok (.if_icmp .eq 18, 3) := by decide +kernel
theorem d_mo_isBefore_72 : decode b_mo_isBefore 72 = .ok (.iload 5, 2) := by decide +kernel
theorem d_mo_isBefore_74 : decode b_mo_isBefore 74 = .ok (.iload 6, 2) := by decide +kernel
theorem d_mo_isBefore_76 : decode b_mo_isBefore 76 = .ok (.if_icmp .ge 7, 3) := by decide +kernel
theorem d_mo_isBefore_79 : decode b_mo_isBefore 79 = .ok (.iconst 1, 1) := by decide +kernel
theorem d_mo_isBefore_80 : decode b_mo_isBefore 80 = .ok (.goto 17, 3) := by decide +kernel
theorem d_mo_isBefore_83 : decode b_mo_isBefore 83 = .ok (.iconst 0, 1) := by decide +kernel
theorem d_mo_isBefore_84 : decode b_mo_isBefore 84 = .ok (.goto 13, 3) := by decide +kernel
theorem d_mo_isBefore_87 : decode b_mo_isBefore 87 = .ok (.iload_n 1, 1) := by decide +kernel
theorem d_mo_isBefore_88 : decode b_mo_isBefore 88 = .ok (.iload_n 2, 1) := by decide +kernel
theorem d_mo_isBefore_89 : decode b_mo_isBefore 89 = .ok (.if_icmp .ge 7, 3) := by decide +kernel
theorem d_mo_isBefore_92 : decode b_mo_isBefore 92 = .ok (.iconst 1, 1) := by decide +kernel
theorem d_mo_isBefore_93 : decode b_mo_isBefore 93 = .ok (.goto 4, 3) := by decide +kernel
theorem d_mo_isBefore_96 : decode b_mo_isBefore 96 = .ok (.iconst 0, 1) := by decide +kernel
theorem d_mo_isBefore_97 : decode b_mo_isBefore 97 = .ok (.ireturn, 1) := by decide +kernel
theorem d_mo_load_0 : decode b_mo_load 0 = .ok (.aload_n 0, 1) := by decide +kernel
theorem d_mo_load_1 : decode b_mo_load 1 = .ok (.iconst 0, 1) := by decide +kernel
theorem d_mo_load_2 : decode b_mo_load 2 = .ok (.putfield 38, 3) := by decide +kernel
theorem d_mo_load_5 : decode b_mo_load 5 = .ok (.aload_n 0, 1) := by decide +kernel
theorem d_mo_load_6 : decode b_mo_load 6 = .ok (.iload_n 1, 1) := by decide +kernel
theorem d_mo_load_7 : decode b_mo_load 7 = .ok (.invokevirtual 62, 3) := by decide +kernel
theorem d_mo_load_10 : decode b_mo_load 10 = .ok (.ifCond .eq 43, 3) := by decide +kernel
theorem d_mo_load_13 : decode b_mo_load 13 = .ok (.iload_n 2, 1) := by decide +kernel
theorem d_mo_load_14 : decode b_mo_load 14 = .ok (.invokestatic 65, 3) := by decide +kernel
theorem d_mo_load_17 : decode b_mo_load 17 = .ok (.ifCond .eq 36, 3) := by decide +kernel
theorem d_mo_load_20 : decode b_mo_load 20 = .ok (.aload_n 0, 1) := by decide +kernel
theorem d_mo_load_21 : decode b_mo_load 21 = .ok (.iload_n 1, 1) := by decide +kernel
theorem d_mo_load_22 : decode b_mo_load 22 = .ok (.iload_n 2, 1) := by decide +kernel
theorem d_mo_load_23 : decode b_mo_load 23 = .ok (.invokevirtual 75, 3) := by decide +kernel
theorem d_mo_load_26 : decode b_mo_load 26 = .ok (.ifCond .eq 27, 3) := by decide +kernel
theorem d_mo_load_29 : decode b_mo_load 29 = .ok (.aload_n 0, 1) := by decide +kernel
theorem d_mo_load_30 : decode b_mo_load 30 = .ok (.getfield 13, 3) := by decide +kernel
theorem d_mo_load_33 : decode b_mo_load 33 = .ok (.bipush 6, 2) := by decide +kernel
theorem d_mo_load_35 : decode b_mo_load 35 = .ok (.iload_n 1, 1) := by decide +kernel
theorem d_mo_load_36 : decode b_mo_load 36 = .ok (.imul, 1) := by decide +kernel
theorem d_mo_load_37 : decode b_mo_load 37 = .ok (.iconst 5, 1) := by decide +kernel
theorem d_mo_load_38 : decode b_mo_load 38 = .ok (.iadd, 1) := by decide +kernel
theorem d_mo_load_39 : decode b_mo_load 39 = .ok (.iaload, 1) := by decide +kernel
theorem d_mo_load_40 : decode b_mo_load 40 = .ok (.iload_n 2, 1) := by decide +kernel
theorem d_mo_load_41 : decode b_mo_load 41 = .ok (.if_icmp .ge 12, 3) := by decide +kernel
theorem d_mo_load_44 : decode b_mo_load 44 = .ok (.aload_n 0, 1) := by decide +kernel
theorem d_mo_load_45 : decode b_mo_load 45 = .ok (.getfield 92, 3) := by decide +kernel
theorem d_mo_load_48 : decode b_mo_load 48 = .ok (.bipush 60, 2) := by decide +kernel
theorem d_mo_load_50 : decode b_mo_load 50 = .ok (.if_icmp .ne 5, 3) := by decide +kernel
theorem d_mo_load_53 : decode b_mo_load 53 = .ok (.iconst 0, 1) := by decide +kernel
theorem d_mo_load_54 : decode b_mo_load 54 = .ok (.ireturn, 1) := by decide +kernel
theorem d_mo_load_55 : decode b_mo_load 55 = .ok (.aload_n 0, 1) := by decide +kernel
theorem d_mo_load_56 : decode b_mo_load 56 = .ok (.dup, 1) := by decide +kernel
theorem d_mo_load_57 : decode b_mo_load 57 = .ok (.getfield 92, 3) := by decide +kernel
theorem d_mo_load_60 : decode b_mo_load 60 = .ok (.iconst 1, 1) := by decide +kernel
theorem d_mo_load_61 : decode b_mo_load 61 = .ok (.iadd, 1) := by decide +kernel
theorem d_mo_load_62 : decode b_mo_load 62 = .ok (.putfield 92, 3) := by decide +kernel
theorem d_mo_load_65 : decode b_mo_load 65 = .ok (.aload_n 0, 1) := by decide +kernel
theorem d_mo_load_66 : decode b_mo_load 66 = .ok (.getfield 13, 3) := by decide +kernel
theorem d_mo_load_69 : decode b_mo_load 69 = .ok (.bipush 6, 2) := by decide +kernel
theorem d_mo_load_71 : decode b_mo_load 71 = .ok (.iload_n 1, 1) := by decide +kernel
theorem d_mo_load_72 : decode b_mo_load 72 = .ok (.imul, 1) := by decide +kernel
theorem d_mo_load_73 : decode b_mo_load 73 = .ok (.iconst 5, 1) := by decide +kernel
theorem d_mo_load_74 : decode b_mo_load 74 = .ok (.iadd, 1) := by decide +kernel
theorem d_mo_load_75 : decode b_mo_load 75 = .ok (.iload_n 2, 1) := by decide +kernel
theorem d_mo_load_76 : decode b_mo_load 76 = .ok (.iastore, 1) := by decide +kernel
theorem d_mo_load_77 : decode b_mo_load 77 = .ok (.iconst 0, 1) := by decide +kernel
theorem d_mo_load_78 : decode b_mo_load 78 = .ok (.istore_n 3, 1) := by decide +kernel
theorem d_mo_load_79 : decode b_mo_load 79 = .ok (.iconst 1, 1) := by decide +kernel
theorem d_mo_load_80 : decode b_mo_load 80 = .ok (.istore 4, 2) := by decide +kernel
theorem d_mo_load_82 : decode b_mo_load 82 = .ok (.iconst 0, 1) := by decide +kernel
theorem d_mo_load_83 : decode b_mo_load 83 = .ok (.istore 5, 2) := by decide +kernel
theorem d_mo_load_85 : decode b_mo_load 85 = .ok (.iload 4, 2) := by decide +kernel
theorem d_mo_load_87 : decode b_mo_load 87 = .ok (.ifCond .eq 206, 3) := by decide +kernel
theorem d_mo_load_90 : decode b_mo_load 90 = .ok (.iconst 0, 1) := by decide +kernel
theorem d_mo_load_91 : decode b_mo_load 91 = .ok (.istore 6, 2) := by decide +kernel
theorem d_mo_load_93 : decode b_mo_load 93 = .ok (.iconst 1, 1) := by decide +kernel
theorem d_mo_load_94 : decode b_mo_load 94 = .ok (.istore 7, 2) := by decide +kernel
theorem d_mo_load_96 : decode b_mo_load 96 = .ok (.iload 7, 2) := by decide +kernel
theorem d_mo_load_98 : decode b_mo_load 98 = .ok (.aload_n 0, 1) := by decide +kernel
theorem d_mo_load_99 : decode b_mo_load 99 = .ok (.getfield 51, 3) := by decide +kernel
theorem d_mo_load_102 : decode b_mo_load 102 = .ok (.if_icmp .gt 92, 3) := by decide +kernel
theorem d_mo_load_105 : decode b_mo_load 105 = .ok (.aload_n 0, 1) := by decide +kernel
theorem d_mo_load_106 : decode b_mo_load 106 = .ok (.getfield 32, 3) := by decide +kernel
theorem d_mo_load_109 : decode b_mo_load 109 = .ok (.bipush 8, 2) := by decide +kernel
theorem d_mo_load_111 : decode b_mo_load 111 = .ok (.iload 7, 2) := by decide +kernel
theorem d_mo_load_113 : decode b_mo_load 113 = .ok (.imul, 1) := by decide +kernel
theorem d_mo_load_114 : decode b_mo_load 114 = .ok (.iconst 1, 1) := by decide +kernel
theorem d_mo_load_115 : decode b_mo_load 115 = .ok (.iadd, 1) := by decide +kernel
theorem d_mo_load_116 : decode b_mo_load 116 = .ok (.iaload, 1) := by decide +kernel
theorem d_mo_load_117 : decode b_mo_load 117 = .ok (.iload_n 1, 1) := by decide +kernel
theorem d_mo_load_118 : decode b_mo_load 118 = .ok (.if_icmp .ne 70, 3) := by decide +kernel
theorem d_mo_load_121 : decode b_mo_load 121 = .ok (.aload_n 0, 1) := by decide +kernel
theorem d_mo_load_122 : decode b_mo_load 122 = .ok (.getfield 32, 3) := by decide +kernel
theorem d_mo_load_125 : decode b_mo_load 125 = .ok (.bipush 8, 2) := by decide +kernel
theorem d_mo_load_127 : decode b_mo_load 127 = .ok (.iload 7, 2) := by decide +kernel
theorem d_mo_load_129 : decode b_mo_load 129 = .ok (.imul, 1) := by decide +kernel
theorem d_mo_load_130 : decode b_mo_load 130 = .ok (.iconst 2, 1) := by decide +kernel
theorem d_mo_load_131 : decode b_mo_load 131 = .ok (.iadd, 1) := by decide +kernel
theorem d_mo_load_132 : decode b_mo_load 132 = .ok (.iaload, 1) := by decide +kernel
theorem d_mo_load_133 : decode b_mo_load 133 = .ok (.ifCond .ne 55, 3) := by decide +kernel
theorem d_mo_load_136 : decode b_mo_load 136 = .ok (.aload_n 0, 1) := by decide +kernel
theorem d_mo_load_137 : decode b_mo_load 137 = .ok (.getfield 32, 3) := by decide +kernel
theorem d_mo_load_140 : decode b_mo_load 140 = .ok (.bipush 8, 2) := by decide +kernel
theorem d_mo_load_142 : decode b_mo_load 142 = .ok (.iload 7, 2) := by decide +kernel
theorem d_mo_load_144 : decode b_mo_load 144 = .ok (.imul, 1) := by decide +kernel
theorem d_mo_load_145 : decode b_mo_load 145 = .ok (.iconst 4, 1) := by decide +kernel
theorem d_mo_load_146 : decode b_mo_load 146 = .ok (.iadd, 1) := by decide +kernel
theorem d_mo_load_147 : decode b_mo_load 147 = .ok (.iaload, 1) := by decide +kernel
theorem d_mo_load_148 : decode b_mo_load 148 = .ok (.iload_n 2, 1) := by decide +kernel
theorem d_mo_load_149 : decode b_mo_load 149 = .ok (.if_icmp .gt 39, 3) := by decide +kernel
theorem d_mo_load_152 : decode b_mo_load 152 = .ok (.iload 5, 2) := by decide +kernel
theorem d_mo_load_154 : decode b_mo_load 154 = .ok (.ifCond .eq 14, 3) := by decide +kernel
theorem d_mo_load_157 : decode b_mo_load 157 = .ok (.aload_n 0, 1) := by decide +kernel
theorem d_mo_load_158 : decode b_mo_load 158 = .ok (.iload 5, 2) := by decide +kernel
theorem d_mo_load_160 : decode b_mo_load 160 = .ok (.iload 7, 2) := by decide +kernel
theorem d_mo_load_162 : decode b_mo_load 162 = .ok (.invokevirtual 86, 3) := by decide +kernel
theorem d_mo_load_165 : decode b_mo_load 165 = .ok (.ifCond .eq 23, 3) := by decide +kernel
theorem d_mo_load_168 : decode b_mo_load 168 = .ok (.iload 6, 2) := by decide +kernel
theorem d_mo_load_170 : decode b_mo_load 170 = .ok (.ifCond .eq 14, 3) := by decide +kernel
theorem d_mo_load_173 : decode b_mo_load 173 = .ok (.aload_n 0, 1) := by decide +kernel
theorem d_mo_load_174 : decode b_mo_load 174 = .ok (.iload 7, 2) := by decide +kernel
theorem d_mo_load_176 : decode b_mo_load 176 = .ok (.iload 6, 2) := by decide +kernel
theorem d_mo_load_178 : decode b_mo_load 178 = .ok (.invokevirtual 86, 3) := by decide +kernel
theorem d_mo_load_181 : decode b_mo_load 181 = .ok (.ifCond .eq 7, 3) := by decide +kernel
theorem d_mo_load_184 : decode b_mo_load 184 = .ok (.iload 7, 2) := by decide +kernel
theorem d_mo_load_186 : decode b_mo_load 186 = .ok (.istore 6, 2) := by decide +kernel
theorem d_mo_load_188 : decode b_mo_load 188 = .ok (.iinc 7 1, 3) := by decide +kernel
theorem d_mo_load_191 : decode b_mo_load 191 = .ok (.goto (-95), 3) := by decide +kernel
theorem d_mo_load_194 : decode b_mo_load 194 = .ok (.iload 6, 2) := by decide +kernel
theorem d_mo_load_196 : decode b_mo_load 196 = .ok (.ifCond .eq 7, 3) := by decide +kernel
theorem d_mo_load_199 : decode b_mo_load 199 = .ok (.iconst 1, 1) := by decide +kernel
theorem d_mo_load_200 : decode b_mo_load 200 = .ok (.goto 4, 3) := by decide +kernel
theorem d_mo_load_203 : decode b_mo_load 203 = .ok (.iconst 0, 1) := by decide +kernel
theorem d_mo_load_204 : decode b_mo_load 204 = .ok (.istore 4, 2) := by decide +kernel
theorem d_mo_load_206 : decode b_mo_load 206 = .ok (.iload 4, 2) := by decide +kernel
theorem d_mo_load_208 : decode b_mo_load 208 = .ok (.ifCond .eq 82, 3) := by decide +kernel
theorem d_mo_load_211 : decode b_mo_load 211 = .ok (.aload_n 0, 1) := by decide +kernel
theorem d_mo_load_212 : decode b_mo_load 212 = .ok (.getfield 7, 3) := by decide +kernel
theorem d_mo_load_215 : decode b_mo_load 215 = .ok (.aload_n 0, 1) := by decide +kernel
theorem d_mo_load_216 : decode b_mo_load 216 = .ok (.getfield 13, 3) := by decide +kernel
theorem d_mo_load_219 : decode b_mo_load 219 = .ok (.bipush 6, 2) := by decide +kernel
theorem d_mo_load_221 : decode b_mo_load 221 = .ok (.iload_n 1, 1) := by decide +kernel
theorem d_mo_load_222 : decode b_mo_load 222 = .ok (.imul, 1) := by decide +kernel
theorem d_mo_load_223 : decode b_mo_load 223 = .ok (.iconst 1, 1) := by decide +kernel
theorem d_mo_load_224 : decode b_mo_load 224 = .ok (.iadd, 1) := by decide +kernel
theorem d_mo_load_225 : decode b_mo_load 225 = .ok (.iaload, 1) := by decide +kernel
theorem d_mo_load_226 : decode b_mo_load 226 = .ok (.baload, 1) := by decide +kernel
theorem d_mo_load_227 : decode b_mo_load 227 = .ok (.ifCond .ne 7, 3) := by decide +kernel
theorem d_mo_load_230 : decode b_mo_load 230 = .ok (.iconst 1, 1) := by decide +kernel
theorem d_mo_load_231 : decode b_mo_load 231 = .ok (.goto 4, 3) := by decide +kernel
theorem d_mo_load_234 : decode b_mo_load 234 = .ok (.iconst 0, 1) := by decide +kernel
theorem d_mo_load_235 : decode b_mo_load 235 = .ok (.istore 7, 2) := by decide +kernel
theorem d_mo_load_237 : decode b_mo_load 237 = .ok (.iload 7, 2) := by decide +kernel
theorem d_mo_load_239 : decode b_mo_load 239 = .ok (.ifCond .eq 31, 3) := by decide +kernel
theorem d_mo_load_242 : decode b_mo_load 242 = .ok (.iload_n 3, 1) := by decide +kernel
theorem d_mo_load_243 : decode b_mo_load 243 = .ok (.aload_n 0, 1) := by decide +kernel
theorem d_mo_load_244 : decode b_mo_load 244 = .ok (.getfield 13, 3) := by decide +kernel
theorem d_mo_load_247 : decode b_mo_load 247 = .ok (.bipush 6, 2) := by decide +kernel
theorem d_mo_load_249 : decode b_mo_load 249 = .ok (.iload_n 1, 1) := by decide +kernel
theorem d_mo_load_250 : decode b_mo_load 250 = .ok (.imul, 1) := by decide +kernel
theorem d_mo_load_251 : decode b_mo_load 251 = .ok (.iconst 4, 1) := by decide +kernel
theorem d_mo_load_252 : decode b_mo_load 252 = .ok (.iadd, 1) := by decide +kernel
theorem d_mo_load_253 : decode b_mo_load 253 = .ok (.iaload, 1) := by decide +kernel
theorem d_mo_load_254 : decode b_mo_load 254 = .ok (.if_icmp .ge 16, 3) := by decide +kernel
theorem d_mo_load_257 : decode b_mo_load 257 = .ok (.aload_n 0, 1) := by decide +kernel
theorem d_mo_load_258 : decode b_mo_load 258 = .ok (.iload 6, 2) := by decide +kernel
theorem d_mo_load_260 : decode b_mo_load 260 = .ok (.iload_n 3, 1) := by decide +kernel
theorem d_mo_load_261 : decode b_mo_load 261 = .ok (.invokevirtual 95, 3) := by decide +kernel
theorem d_mo_load_264 : decode b_mo_load 264 = .ok (.iinc 3 1, 3) := by decide +kernel
theorem d_mo_load_267 : decode b_mo_load 267 = .ok (.goto 19, 3) := by decide +kernel
theorem d_mo_load_270 : decode b_mo_load 270 = .ok (.aload_n 0, 1) := by decide +kernel
theorem d_mo_load_271 : decode b_mo_load 271 = .ok (.iload 7, 2) := by decide +kernel
theorem d_mo_load_273 : decode b_mo_load 273 = .ok (.ifCond .eq 7, 3) := by decide +kernel
theorem d_mo_load_276 : decode b_mo_load 276 = .ok (.iconst 2, 1) := by decide +kernel
theorem d_mo_load_277 : decode b_mo_load 277 = .ok (.goto 4, 3) := by decide +kernel
theorem d_mo_load_280 : decode b_mo_load 280 = .ok (.iconst 1, 1) := by decide +kernel
theorem d_mo_load_281 : decode b_mo_load 281 = .ok (.iload 6, 2) := by decide +kernel
theorem d_mo_load_283 : decode b_mo_load 283 = .ok (.invokevirtual 99, 3) := by decide +kernel
theorem d_mo_load_286 : decode b_mo_load 286 = .ok (.iload 6, 2) := by decide +kernel
theorem d_mo_load_288 : decode b_mo_load 288 = .ok (.istore 5, 2) := by decide +kernel
theorem d_mo_load_290 : decode b_mo_load 290 = .ok (.goto (-205), 3) := by decide +kernel
theorem d_mo_load_293 : decode b_mo_load 293 = .ok (.iconst 1, 1) := by decide +kernel
theorem d_mo_load_294 : decode b_mo_load 294 = .ok (.istore 6, 2) := by decide +kernel
theorem d_mo_load_296 : decode b_mo_load 296 = .ok (.iload 6, 2) := by decide +kernel
theorem d_mo_load_298 : decode b_mo_load 298 = .ok (.aload_n 0, 1) := by decide +kernel
theorem d_mo_load_299 : decode b_mo_load 299 = .ok (.getfield 51, 3) := by decide +kernel
theorem d_mo_load_302 : decode b_mo_load 302 = .ok (.if_icmp .gt 58, 3) := by decide +kernel
theorem d_mo_load_305 : decode b_mo_load 305 = .ok (.aload_n 0, 1) := by decide +kernel
theorem d_mo_load_306 : decode b_mo_load 306 = .ok (.getfield 32, 3) := by decide +kernel
theorem d_mo_load_309 : decode b_mo_load 309 = .ok (.bipush 8, 2) := by decide +kernel
theorem d_mo_load_311 : decode b_mo_load 311 = .ok (.iload 6, 2) := by decide +kernel
theorem d_mo_load_313 : decode b_mo_load 313 = .ok (.imul, 1) := by decide +kernel
theorem d_mo_load_314 : decode b_mo_load 314 = .ok (.iconst 2, 1) := by decide +kernel
theorem d_mo_load_315 : decode b_mo_load 315 = .ok (.iadd, 1) := by decide +kernel
theorem d_mo_load_316 : decode b_mo_load 316 = .ok (.iaload, 1) := by decide +kernel
theorem d_mo_load_317 : decode b_mo_load 317 = .ok (.iconst 1, 1) := by decide +kernel
theorem d_mo_load_318 : decode b_mo_load 318 = .ok (.if_icmp .ne 36, 3) := by decide +kernel
theorem d_mo_load_321 : decode b_mo_load 321 = .ok (.aload_n 0, 1) := by decide +kernel
theorem d_mo_load_322 : decode b_mo_load 322 = .ok (.getfield 32, 3) := by decide +kernel
theorem d_mo_load_325 : decode b_mo_load 325 = .ok (.bipush 8, 2) := by decide +kernel
theorem d_mo_load_327 : decode b_mo_load 327 = .ok (.iload 6, 2) := by decide +kernel
theorem d_mo_load_329 : decode b_mo_load 329 = .ok (.imul, 1) := by decide +kernel
theorem d_mo_load_330 : decode b_mo_load 330 = .ok (.bipush 6, 2) := by decide +kernel
theorem d_mo_load_332 : decode b_mo_load 332 = .ok (.iadd, 1) := by decide +kernel
theorem d_mo_load_333 : decode b_mo_load 333 = .ok (.iaload, 1) := by decide +kernel
theorem d_mo_load_334 : decode b_mo_load 334 = .ok (.aload_n 0, 1) := by decide +kernel
theorem d_mo_load_335 : decode b_mo_load 335 = .ok (.getfield 92, 3) := by decide +kernel
theorem d_mo_load_338 : decode b_mo_load 338 = .ok (.if_icmp .ne 16, 3) := by decide +kernel
theorem d_mo_load_341 : decode b_mo_load 341 = .ok (.aload_n 0, 1) := by decide +kernel
theorem d_mo_load_342 : decode b_mo_load 342 = .ok (.getfield 32, 3) := by decide +kernel
theorem d_mo_load_345 : decode b_mo_load 345 = .ok (.bipush 8, 2) := by decide +kernel
theorem d_mo_load_347 : decode b_mo_load 347 = .ok (.iload 6, 2) := by decide +kernel
theorem d_mo_load_349 : decode b_mo_load 349 = .ok (.imul, 1) := by decide +kernel
theorem d_mo_load_350 : decode b_mo_load 350 = .ok (.iconst 4, 1) := by decide +kernel
theorem d_mo_load_351 : decode b_mo_load 351 = .ok (.iadd, 1) := by decide +kernel
theorem d_mo_load_352 : decode b_mo_load 352 = .ok (.iload_n 2, 1) := by decide +kernel
theorem d_mo_load_353 : decode b_mo_load 353 = .ok (.iastore, 1) := by decide +kernel
theorem d_mo_load_354 : decode b_mo_load 354 = .ok (.iinc 6 1, 3) := by decide +kernel
theorem d_mo_load_357 : decode b_mo_load 357 = .ok (.goto (-61), 3) := by decide +kernel
theorem d_mo_load_360 : decode b_mo_load 360 = .ok (.aload_n 0, 1) := by decide +kernel
theorem d_mo_load_361 : decode b_mo_load 361 = .ok (.getfield 92, 3) := by decide +kernel
theorem d_mo_load_364 : decode b_mo_load 364 = .ok (.ireturn, 1) := by decide +kernel
theorem d_mo_put_0 : decode b_mo_put 0 = .ok (.aload_n 0, 1) := by decide +kernel
theorem d_mo_put_1 : decode b_mo_put 1 = .ok (.getfield 32, 3) := by decide +kernel
theorem d_mo_put_4 : decode b_mo_put 4 = .ok (.bipush 8, 2) := by decide +kernel
theorem d_mo_put_6 : decode b_mo_put 6 = .ok (.iload_n 1, 1) := by decide +kernel
theorem d_mo_put_7 : decode b_mo_put 7 = .ok (.imul, 1) := by decide +kernel
theorem d_mo_put_8 : decode b_mo_put 8 = .ok (.iconst 2, 1) := by decide +kernel
theorem d_mo_put_9 : decode b_mo_put 9 = .ok (.iadd, 1) := by decide +kernel
theorem d_mo_put_10 : decode b_mo_put 10 = .ok (.iconst 1, 1) := by decide +kernel
theorem d_mo_put_11 : decode b_mo_put 11 = .ok (.iastore, 1) := by decide +kernel
theorem d_mo_put_12 : decode b_mo_put 12 = .ok (.aload_n 0, 1) := by decide +kernel
theorem d_mo_put_13 : decode b_mo_put 13 = .ok (.getfield 32, 3) := by decide +kernel
theorem d_mo_put_16 : decode b_mo_put 16 = .ok (.bipush 8, 2) := by decide +kernel
theorem d_mo_put_18 : decode b_mo_put 18 = .ok (.iload_n 1, 1) := by decide +kernel
theorem d_mo_put_19 : decode b_mo_put 19 = .ok (.imul, 1) := by decide +kernel
theorem d_mo_put_20 : decode b_mo_put 20 = .ok (.bipush 6, 2) := by decide +kernel
theorem d_mo_put_22 : decode b_mo_put 22 = .ok (.iadd, 1) := by decide +kernel
theorem d_mo_put_23 : decode b_mo_put 23 = .ok (.aload_n 0, 1) := by decide +kernel
theorem d_mo_put_24 : decode b_mo_put 24 = .ok (.getfield 92, 3) := by decide +kernel
theorem d_mo_put_27 : decode b_mo_put 27 = .ok (.iastore, 1) := by decide +kernel
theorem d_mo_put_28 : decode b_mo_put 28 = .ok (.aload_n 0, 1) := by decide +kernel
theorem d_mo_put_29 : decode b_mo_put 29 = .ok (.getfield 32, 3) := by decide +kernel
theorem d_mo_put_32 : decode b_mo_put 32 = .ok (.bipush 8, 2) := by decide +kernel
theorem d_mo_put_34 : decode b_mo_put 34 = .ok (.iload_n 1, 1) := by decide +kernel
theorem d_mo_put_35 : decode b_mo_put 35 = .ok (.imul, 1) := by decide +kernel
theorem d_mo_put_36 : decode b_mo_put 36 = .ok (.bipush 7, 2) := by decide +kernel
theorem d_mo_put_38 : decode b_mo_put 38 = .ok (.iadd, 1) := by decide +kernel
theorem d_mo_put_39 : decode b_mo_put 39 = .ok (.iload_n 2, 1) := by decide +kernel
theorem d_mo_put_40 : decode b_mo_put 40 = .ok (.iastore, 1) := by decide +kernel
theorem d_mo_put_41 : decode b_mo_put 41 = .ok (.return_, 1) := by decide +kernel
theorem d_mo_tell_0 : decode b_mo_tell 0 = .ok (.aload_n 0, 1) := by decide +kernel
theorem d_mo_tell_1 : decode b_mo_tell 1 = .ok (.getfield 89, 3) := by decide +kernel
theorem d_mo_tell_4 : decode b_mo_tell 4 = .ok (.bipush 100, 2) := by decide +kernel
theorem d_mo_tell_6 : decode b_mo_tell 6 = .ok (.if_icmp .ge 39, 3) := by decide +kernel
theorem d_mo_tell_9 : decode b_mo_tell 9 = .ok (.aload_n 0, 1) := by decide +kernel
theorem d_mo_tell_10 : decode b_mo_tell 10 = .ok (.getfield 35, 3) := by decide +kernel
theorem d_mo_tell_13 : decode b_mo_tell 13 = .ok (.iconst 2, 1) := by decide +kernel
theorem d_mo_tell_14 : decode b_mo_tell 14 = .ok (.aload_n 0, 1) := by decide +kernel
theorem d_mo_tell_15 : decode b_mo_tell 15 = .ok (.getfield 89, 3) := by decide +kernel
theorem d_mo_tell_18 : decode b_mo_tell 18 = .ok (.imul, 1) := by decide +kernel
theorem d_mo_tell_19 : decode b_mo_tell 19 = .ok (.iload_n 1, 1) := by decide +kernel
theorem d_mo_tell_20 : decode b_mo_tell 20 = .ok (.iastore, 1) := by decide +kernel
theorem d_mo_tell_21 : decode b_mo_tell 21 = .ok (.aload_n 0, 1) := by decide +kernel
theorem d_mo_tell_22 : decode b_mo_tell 22 = .ok (.getfield 35, 3) := by decide +kernel
theorem d_mo_tell_25 : decode b_mo_tell 25 = .ok (.iconst 2, 1) := by decide +kernel
theorem d_mo_tell_26 : decode b_mo_tell 26 = .ok (.aload_n 0, 1) := by decide +kernel
theorem d_mo_tell_27 : decode b_mo_tell 27 = .ok (.getfield 89, 3) := by decide +kernel
theorem d_mo_tell_30 : decode b_mo_tell 30 = .ok (.imul, 1) := by decide +kernel
theorem d_mo_tell_31 : decode b_mo_tell 31 = .ok (.iconst 1, 1) := by decide +kernel
theorem d_mo_tell_32 : decode b_mo_tell 32 = .ok (.iadd, 1) := by decide +kernel
theorem d_mo_tell_33 : decode b_mo_tell 33 = .ok (.iload_n 2, 1) := by decide +kernel
theorem d_mo_tell_34 : decode b_mo_tell 34 = .ok (.iastore, 1) := by decide +kernel
theorem d_mo_tell_35 : decode b_mo_tell 35 = .ok (.aload_n 0, 1) := by decide +kernel
theorem d_mo_tell_36 : decode b_mo_tell 36 = .ok (.dup, 1) := by decide +kernel
theorem d_mo_tell_37 : decode b_mo_tell 37 = .ok (.getfield 89, 3) := by decide +kernel
theorem d_mo_tell_40 : decode b_mo_tell 40 = .ok (.iconst 1, 1) := by decide +kernel
theorem d_mo_tell_41 : decode b_mo_tell 41 = .ok (.iadd, 1) := by decide +kernel
theorem d_mo_tell_42 : decode b_mo_tell 42 = .ok (.putfield 89, 3) := by decide +kernel
theorem d_mo_tell_45 : decode b_mo_tell 45 = .ok (.return_, 1) := by decide +kernel
theorem d_mo_loaded_0 : decode b_mo_loaded 0 = .ok (.aload_n 0, 1) := by decide +kernel
theorem d_mo_loaded_1 : decode b_mo_loaded 1 = .ok (.iconst 0, 1) := by decide +kernel
theorem d_mo_loaded_2 : decode b_mo_loaded 2 = .ok (.putfield 38, 3) := by decide +kernel
theorem d_mo_loaded_5 : decode b_mo_loaded 5 = .ok (.iconst 1, 1) := by decide +kernel
theorem d_mo_loaded_6 : decode b_mo_loaded 6 = .ok (.istore_n 3, 1) := by decide +kernel
theorem d_mo_loaded_7 : decode b_mo_loaded 7 = .ok (.iload_n 3, 1) := by decide +kernel
theorem d_mo_loaded_8 : decode b_mo_loaded 8 = .ok (.aload_n 0, 1) := by decide +kernel
theorem d_mo_loaded_9 : decode b_mo_loaded 9 = .ok (.getfield 51, 3) := by decide +kernel
theorem d_mo_loaded_12 : decode b_mo_loaded 12 = .ok (.if_icmp .gt 47, 3) := by decide +kernel
theorem d_mo_loaded_15 : decode b_mo_loaded 15 = .ok (.iload_n 1, 1) := by decide +kernel
theorem d_mo_loaded_16 : decode b_mo_loaded 16 = .ok (.ifCond .le 43, 3) := by decide +kernel
theorem d_mo_loaded_19 : decode b_mo_loaded 19 = .ok (.aload_n 0, 1) := by decide +kernel
theorem d_mo_loaded_20 : decode b_mo_loaded 20 = .ok (.getfield 32, 3) := by decide +kernel
theorem d_mo_loaded_23 : decode b_mo_loaded 23 = .ok (.bipush 8, 2) := by decide +kernel
theorem d_mo_loaded_25 : decode b_mo_loaded 25 = .ok (.iload_n 3, 1) := by decide +kernel
theorem d_mo_loaded_26 : decode b_mo_loaded 26 = .ok (.imul, 1) := by decide +kernel
theorem d_mo_loaded_27 : decode b_mo_loaded 27 = .ok (.bipush 6, 2) := by decide +kernel
theorem d_mo_loaded_29 : decode b_mo_loaded 29 = .ok (.iadd, 1) := by decide +kernel
theorem d_mo_loaded_30 : decode b_mo_loaded 30 = .ok (.iaload, 1) := by decide +kernel
theorem d_mo_loaded_31 : decode b_mo_loaded 31 = .ok (.iload_n 1, 1) := by decide +kernel
theorem d_mo_loaded_32 : decode b_mo_loaded 32 = .ok (.if_icmp .ne 21, 3) := by decide +kernel
theorem d_mo_loaded_35 : decode b_mo_loaded 35 = .ok (.aload_n 0, 1) := by decide +kernel
theorem d_mo_loaded_36 : decode b_mo_loaded 36 = .ok (.getfield 32, 3) := by decide +kernel
theorem d_mo_loaded_39 : decode b_mo_loaded 39 = .ok (.bipush 8, 2) := by decide +kernel
theorem d_mo_loaded_41 : decode b_mo_loaded 41 = .ok (.iload_n 3, 1) := by decide +kernel
theorem d_mo_loaded_42 : decode b_mo_loaded 42 = .ok (.imul, 1) := by decide +kernel
theorem d_mo_loaded_43 : decode b_mo_loaded 43 = .ok (.bipush 7, 2) := by decide +kernel
theorem d_mo_loaded_45 : decode b_mo_loaded 45 = .ok (.iadd, 1) := by decide +kernel
theorem d_mo_loaded_46 : decode b_mo_loaded 46 = .ok (.iaload, 1) := by decide +kernel
theorem d_mo_loaded_47 : decode b_mo_loaded 47 = .ok (.iload_n 2, 1) := by decide +kernel
theorem d_mo_loaded_48 : decode b_mo_loaded 48 = .ok (.if_icmp .ne 5, 3) := by decide +kernel
theorem d_mo_loaded_51 : decode b_mo_loaded 51 = .ok (.iload_n 3, 1) := by decide +kernel
theorem d_mo_loaded_52 : decode b_mo_loaded 52 = .ok (.ireturn, 1) := by decide +kernel
theorem d_mo_loaded_53 : decode b_mo_loaded 53 = .ok (.iinc 3 1, 3) := by decide +kernel
theorem d_mo_loaded_56 : decode b_mo_loaded 56 = .ok (.goto (-49), 3) := by decide +kernel
theorem d_mo_loaded_59 : decode b_mo_loaded 59 = .ok (.iconst 0, 1) := by decide +kernel
theorem d_mo_loaded_60 : decode b_mo_loaded 60 = .ok (.ireturn, 1) := by decide +kernel
theorem d_mo_missing_0 : decode b_mo_missing 0 = .ok (.aload_n 0, 1) := by decide +kernel
theorem d_mo_missing_1 : decode b_mo_missing 1 = .ok (.iconst 0, 1) := by decide +kernel
theorem d_mo_missing_2 : decode b_mo_missing 2 = .ok (.putfield 38, 3) := by decide +kernel
theorem d_mo_missing_5 : decode b_mo_missing 5 = .ok (.iconst 0, 1) := by decide +kernel
theorem d_mo_missing_6 : decode b_mo_missing 6 = .ok (.istore_n 3, 1) := by decide +kernel
theorem d_mo_missing_7 : decode b_mo_missing 7 = .ok (.iconst 0, 1) := by decide +kernel
theorem d_mo_missing_8 : decode b_mo_missing 8 = .ok (.istore 4, 2) := by decide +kernel
theorem d_mo_missing_10 : decode b_mo_missing 10 = .ok (.iload 4, 2) := by decide +kernel
theorem d_mo_missing_12 : decode b_mo_missing 12 = .ok (.bipush 99, 2) := by decide +kernel
theorem d_mo_missing_14 : decode b_mo_missing 14 = .ok (.if_icmp .ge 113, 3) := by decide +kernel
theorem d_mo_missing_17 : decode b_mo_missing 17 = .ok (.iload_n 1, 1) := by decide +kernel
theorem d_mo_missing_18 : decode b_mo_missing 18 = .ok (.ifCond .le 109, 3) := by decide +kernel
theorem d_mo_missing_21 : decode b_mo_missing 21 = .ok (.iload_n 2, 1) := by decide +kernel
theorem d_mo_missing_22 : decode b_mo_missing 22 = .ok (.ifCond .lt 105, 3) := by decide +kernel
theorem d_mo_missing_25 : decode b_mo_missing 25 = .ok (.iconst 1, 1) := by decide +kernel
theorem d_mo_missing_26 : decode b_mo_missing 26 = .ok (.istore 5, 2) := by decide +kernel
theorem d_mo_missing_28 : decode b_mo_missing 28 = .ok (.iload 5, 2) := by decide +kernel
theorem d_mo_missing_30 : decode b_mo_missing 30 = .ok (.aload_n 0, 1) := by decide +kernel
theorem d_mo_missing_31 : decode b_mo_missing 31 = .ok (.getfield 51, 3) := by decide +kernel
theorem d_mo_missing_34 : decode b_mo_missing 34 = .ok (.if_icmp .gt 87, 3) := by decide +kernel
theorem d_mo_missing_37 : decode b_mo_missing 37 = .ok (.aload_n 0, 1) := by decide +kernel
theorem d_mo_missing_38 : decode b_mo_missing 38 = .ok (.getfield 32, 3) := by decide +kernel
theorem d_mo_missing_41 : decode b_mo_missing 41 = .ok (.bipush 8, 2) := by decide +kernel
theorem d_mo_missing_43 : decode b_mo_missing 43 = .ok (.iload 5, 2) := by decide +kernel
theorem d_mo_missing_45 : decode b_mo_missing 45 = .ok (.imul, 1) := by decide +kernel
theorem d_mo_missing_46 : decode b_mo_missing 46 = .ok (.bipush 6, 2) := by decide +kernel
theorem d_mo_missing_48 : decode b_mo_missing 48 = .ok (.iadd, 1) := by decide +kernel
theorem d_mo_missing_49 : decode b_mo_missing 49 = .ok (.iaload, 1) := by decide +kernel
theorem d_mo_missing_50 : decode b_mo_missing 50 = .ok (.iload_n 1, 1) := by decide +kernel
theorem d_mo_missing_51 : decode b_mo_missing 51 = .ok (.if_icmp .ne 64, 3) := by decide +kernel
theorem d_mo_missing_54 : decode b_mo_missing 54 = .ok (.aload_n 0, 1) := by decide +kernel
theorem d_mo_missing_55 : decode b_mo_missing 55 = .ok (.getfield 32, 3) := by decide +kernel
theorem d_mo_missing_58 : decode b_mo_missing 58 = .ok (.bipush 8, 2) := by decide +kernel
theorem d_mo_missing_60 : decode b_mo_missing 60 = .ok (.iload 5, 2) := by decide +kernel
theorem d_mo_missing_62 : decode b_mo_missing 62 = .ok (.imul, 1) := by decide +kernel
theorem d_mo_missing_63 : decode b_mo_missing 63 = .ok (.bipush 7, 2) := by decide +kernel
theorem d_mo_missing_65 : decode b_mo_missing 65 = .ok (.iadd, 1) := by decide +kernel
theorem d_mo_missing_66 : decode b_mo_missing 66 = .ok (.iaload, 1) := by decide +kernel
theorem d_mo_missing_67 : decode b_mo_missing 67 = .ok (.iload 4, 2) := by decide +kernel
theorem d_mo_missing_69 : decode b_mo_missing 69 = .ok (.if_icmp .ne 46, 3) := by decide +kernel
theorem d_mo_missing_72 : decode b_mo_missing 72 = .ok (.aload_n 0, 1) := by decide +kernel
theorem d_mo_missing_73 : decode b_mo_missing 73 = .ok (.getfield 32, 3) := by decide +kernel
theorem d_mo_missing_76 : decode b_mo_missing 76 = .ok (.bipush 8, 2) := by decide +kernel
theorem d_mo_missing_78 : decode b_mo_missing 78 = .ok (.iload 5, 2) := by decide +kernel
theorem d_mo_missing_80 : decode b_mo_missing 80 = .ok (.imul, 1) := by decide +kernel
theorem d_mo_missing_81 : decode b_mo_missing 81 = .ok (.iconst 2, 1) := by decide +kernel
theorem d_mo_missing_82 : decode b_mo_missing 82 = .ok (.iadd, 1) := by decide +kernel
theorem d_mo_missing_83 : decode b_mo_missing 83 = .ok (.iaload, 1) := by decide +kernel
theorem d_mo_missing_84 : decode b_mo_missing 84 = .ok (.iconst 1, 1) := by decide +kernel
theorem d_mo_missing_85 : decode b_mo_missing 85 = .ok (.if_icmp .eq 19, 3) := by decide +kernel
theorem d_mo_missing_88 : decode b_mo_missing 88 = .ok (.aload_n 0, 1) := by decide +kernel
theorem d_mo_missing_89 : decode b_mo_missing 89 = .ok (.getfield 32, 3) := by decide +kernel
theorem d_mo_missing_92 : decode b_mo_missing 92 = .ok (.bipush 8, 2) := by decide +kernel
theorem d_mo_missing_94 : decode b_mo_missing 94 = .ok (.iload 5, 2) := by decide +kernel
theorem d_mo_missing_96 : decode b_mo_missing 96 = .ok (.imul, 1) := by decide +kernel
theorem d_mo_missing_97 : decode b_mo_missing 97 = .ok (.iconst 2, 1) := by decide +kernel
theorem d_mo_missing_98 : decode b_mo_missing 98 = .ok (.iadd, 1) := by decide +kernel
theorem d_mo_missing_99 : decode b_mo_missing 99 = .ok (.iaload, 1) := by decide +kernel
theorem d_mo_missing_100 : decode b_mo_missing 100 = .ok (.iconst 3, 1) := by decide +kernel
theorem d_mo_missing_101 : decode b_mo_missing 101 = .ok (.if_icmp .ne 14, 3) := by decide +kernel
theorem d_mo_missing_104 : decode b_mo_missing 104 = .ok (.iload_n 3, 1) := by decide +kernel
theorem d_mo_missing_105 : decode b_mo_missing 105 = .ok (.iload_n 2, 1) := by decide +kernel
theorem d_mo_missing_106 : decode b_mo_missing 106 = .ok (.if_icmp .ne 6, 3) := by decide +kernel
theorem d_mo_missing_109 : decode b_mo_missing 109 = .ok (.iload 5, 2) := by decide +kernel
theorem d_mo_missing_111 : decode b_mo_missing 111 = .ok (.ireturn, 1) := by decide +kernel
theorem d_mo_missing_112 : decode b_mo_missing 112 = .ok (.iinc 3 1, 3) := by decide +kernel
theorem d_mo_missing_115 : decode b_mo_missing 115 = .ok (.iinc 5 1, 3) := by decide +kernel
theorem d_mo_missing_118 : decode b_mo_missing 118 = .ok (.goto (-90), 3) := by decide +kernel
theorem d_mo_missing_121 : decode b_mo_missing 121 = .ok (.iinc 4 1, 3) := by decide +kernel
theorem d_mo_missing_124 : decode b_mo_missing 124 = .ok (.goto (-114), 3) := by decide +kernel
theorem d_mo_missing_127 : decode b_mo_missing 127 = .ok (.iconst 0, 1) := by decide +kernel
theorem d_mo_missing_128 : decode b_mo_missing 128 = .ok (.ireturn, 1) := by decide +kernel
theorem d_mo_arrive_0 : decode b_mo_arrive 0 = .ok (.aload_n 0, 1) := by decide +kernel
theorem d_mo_arrive_1 : decode b_mo_arrive 1 = .ok (.iconst 0, 1) := by decide +kernel
theorem d_mo_arrive_2 : decode b_mo_arrive 2 = .ok (.putfield 38, 3) := by decide +kernel
theorem d_mo_arrive_5 : decode b_mo_arrive 5 = .ok (.aload_n 0, 1) := by decide +kernel
theorem d_mo_arrive_6 : decode b_mo_arrive 6 = .ok (.iload_n 1, 1) := by decide +kernel
theorem d_mo_arrive_7 : decode b_mo_arrive 7 = .ok (.invokevirtual 79, 3) := by decide +kernel
theorem d_mo_arrive_10 : decode b_mo_arrive 10 = .ok (.ifCond .eq 63, 3) := by decide +kernel
theorem d_mo_arrive_13 : decode b_mo_arrive 13 = .ok (.aload_n 0, 1) := by decide +kernel
theorem d_mo_arrive_14 : decode b_mo_arrive 14 = .ok (.iload_n 2, 1) := by decide +kernel
theorem d_mo_arrive_15 : decode b_mo_arrive 15 = .ok (.invokevirtual 55, 3) := by decide +kernel
theorem d_mo_arrive_18 : decode b_mo_arrive 18 = .ok (.ifCond .eq 55, 3) := by decide +kernel
theorem d_mo_arrive_21 : decode b_mo_arrive 21 = .ok (.iload_n 3, 1) := by decide +kernel
theorem d_mo_arrive_22 : decode b_mo_arrive 22 = .ok (.invokestatic 65, 3) := by decide +kernel
theorem d_mo_arrive_25 : decode b_mo_arrive 25 = .ok (.ifCond .eq 48, 3) := by decide +kernel
theorem d_mo_arrive_28 : decode b_mo_arrive 28 = .ok (.aload_n 0, 1) := by decide +kernel
theorem d_mo_arrive_29 : decode b_mo_arrive 29 = .ok (.getfield 32, 3) := by decide +kernel
theorem d_mo_arrive_32 : decode b_mo_arrive 32 = .ok (.bipush 8, 2) := by decide +kernel
theorem d_mo_arrive_34 : decode b_mo_arrive 34 = .ok (.iload_n 1, 1) := by decide +kernel
theorem d_mo_arrive_35 : decode b_mo_arrive 35 = .ok (.imul, 1) := by decide +kernel
theorem d_mo_arrive_36 : decode b_mo_arrive 36 = .ok (.iconst 2, 1) := by decide +kernel
theorem d_mo_arrive_37 : decode b_mo_arrive 37 = .ok (.iadd, 1) := by decide +kernel
theorem d_mo_arrive_38 : decode b_mo_arrive 38 = .ok (.iaload, 1) := by decide +kernel
theorem d_mo_arrive_39 : decode b_mo_arrive 39 = .ok (.iconst 1, 1) := by decide +kernel
theorem d_mo_arrive_40 : decode b_mo_arrive 40 = .ok (.if_icmp .eq 18, 3) := by decide +kernel
theorem d_mo_arrive_43 : decode b_mo_arrive 43 = .ok (.aload_n 0, 1) := by decide +kernel
theorem d_mo_arrive_44 : decode b_mo_arrive 44 = .ok (.getfield 32, 3) := by decide +kernel
theorem d_mo_arrive_47 : decode b_mo_arrive 47 = .ok (.bipush 8, 2) := by decide +kernel
theorem d_mo_arrive_49 : decode b_mo_arrive 49 = .ok (.iload_n 1, 1) := by decide +kernel
theorem d_mo_arrive_50 : decode b_mo_arrive 50 = .ok (.imul, 1) := by decide +kernel
theorem d_mo_arrive_51 : decode b_mo_arrive 51 = .ok (.iconst 2, 1) := by decide +kernel
theorem d_mo_arrive_52 : decode b_mo_arrive 52 = .ok (.iadd, 1) := by decide +kernel
theorem d_mo_arrive_53 : decode b_mo_arrive 53 = .ok (.iaload, 1) := by decide +kernel
theorem d_mo_arrive_54 : decode b_mo_arrive 54 = .ok (.iconst 3, 1) := by decide +kernel
theorem d_mo_arrive_55 : decode b_mo_arrive 55 = .ok (.if_icmp .ne 18, 3) := by decide +kernel
theorem d_mo_arrive_58 : decode b_mo_arrive 58 = .ok (.iload_n 3, 1) := by decide +kernel
theorem d_mo_arrive_59 : decode b_mo_arrive 59 = .ok (.aload_n 0, 1) := by decide +kernel
theorem d_mo_arrive_60 : decode b_mo_arrive 60 = .ok (.getfield 32, 3) := by decide +kernel
theorem d_mo_arrive_63 : decode b_mo_arrive 63 = .ok (.bipush 8, 2) := by decide +kernel
theorem d_mo_arrive_65 : decode b_mo_arrive 65 = .ok (.iload_n 1, 1) := by decide +kernel
theorem d_mo_arrive_66 : decode b_mo_arrive 66 = .ok (.imul, 1) := by decide +kernel
theorem d_mo_arrive_67 : decode b_mo_arrive 67 = .ok (.iconst 4, 1) := by decide +kernel
theorem d_mo_arrive_68 : decode b_mo_arrive 68 = .ok (.iadd, 1) := by decide +kernel
theorem d_mo_arrive_69 : decode b_mo_arrive 69 = .ok (.iaload, 1) := by decide +kernel
theorem d_mo_arrive_70 : decode b_mo_arrive 70 = .ok (.if_icmp .ge 5, 3) := by decide +kernel
theorem d_mo_arrive_73 : decode b_mo_arrive 73 = .ok (.iconst 0, 1) := by decide +kernel
theorem d_mo_arrive_74 : decode b_mo_arrive 74 = .ok (.ireturn, 1) := by decide +kernel
theorem d_mo_arrive_75 : decode b_mo_arrive 75 = .ok (.iload_n 2, 1) := by decide +kernel
theorem d_mo_arrive_76 : decode b_mo_arrive 76 = .ok (.aload_n 0, 1) := by decide +kernel
theorem d_mo_arrive_77 : decode b_mo_arrive 77 = .ok (.getfield 13, 3) := by decide +kernel
theorem d_mo_arrive_80 : decode b_mo_arrive 80 = .ok (.bipush 6, 2) := by decide +kernel
theorem d_mo_arrive_82 : decode b_mo_arrive 82 = .ok (.aload_n 0, 1) := by decide +kernel
theorem d_mo_arrive_83 : decode b_mo_arrive 83 = .ok (.getfield 32, 3) := by decide +kernel
theorem d_mo_arrive_86 : decode b_mo_arrive 86 = .ok (.bipush 8, 2) := by decide +kernel
theorem d_mo_arrive_88 : decode b_mo_arrive 88 = .ok (.iload_n 1, 1) := by decide +kernel
theorem d_mo_arrive_89 : decode b_mo_arrive 89 = .ok (.imul, 1) := by decide +kernel
theorem d_mo_arrive_90 : decode b_mo_arrive 90 = .ok (.iconst 1, 1) := by decide +kernel
theorem d_mo_arrive_91 : decode b_mo_arrive 91 = .ok (.iadd, 1) := by decide +kernel
theorem d_mo_arrive_92 : decode b_mo_arrive 92 = .ok (.iaload, 1) := by decide +kernel
theorem d_mo_arrive_93 : decode b_mo_arrive 93 = .ok (.imul, 1) := by decide +kernel
theorem d_mo_arrive_94 : decode b_mo_arrive 94 = .ok (.iconst 1, 1) := by decide +kernel
theorem d_mo_arrive_95 : decode b_mo_arrive 95 = .ok (.iadd, 1) := by decide +kernel
theorem d_mo_arrive_96 : decode b_mo_arrive 96 = .ok (.iaload, 1) := by decide +kernel
theorem d_mo_arrive_97 : decode b_mo_arrive 97 = .ok (.if_icmp .ne 7, 3) := by decide +kernel
theorem d_mo_arrive_100 : decode b_mo_arrive 100 = .ok (.iconst 1, 1) := by decide +kernel
theorem d_mo_arrive_101 : decode b_mo_arrive 101 = .ok (.goto 4, 3) := by decide +kernel
theorem d_mo_arrive_104 : decode b_mo_arrive 104 = .ok (.iconst 0, 1) := by decide +kernel
theorem d_mo_arrive_105 : decode b_mo_arrive 105 = .ok (.istore 4, 2) := by decide +kernel
theorem d_mo_arrive_107 : decode b_mo_arrive 107 = .ok (.aload_n 0, 1) := by decide +kernel
theorem d_mo_arrive_108 : decode b_mo_arrive 108 = .ok (.getfield 32, 3) := by decide +kernel
theorem d_mo_arrive_111 : decode b_mo_arrive 111 = .ok (.bipush 8, 2) := by decide +kernel
theorem d_mo_arrive_113 : decode b_mo_arrive 113 = .ok (.iload_n 1, 1) := by decide +kernel
theorem d_mo_arrive_114 : decode b_mo_arrive 114 = .ok (.imul, 1) := by decide +kernel
theorem d_mo_arrive_115 : decode b_mo_arrive 115 = .ok (.iconst 2, 1) := by decide +kernel
theorem d_mo_arrive_116 : decode b_mo_arrive 116 = .ok (.iadd, 1) := by decide +kernel
theorem d_mo_arrive_117 : decode b_mo_arrive 117 = .ok (.iload 4, 2) := by decide +kernel
theorem d_mo_arrive_119 : decode b_mo_arrive 119 = .ok (.ifCond .eq 7, 3) := by decide +kernel
theorem d_mo_arrive_122 : decode b_mo_arrive 122 = .ok (.iconst 2, 1) := by decide +kernel
theorem d_mo_arrive_123 : decode b_mo_arrive 123 = .ok (.goto 4, 3) := by decide +kernel
theorem d_mo_arrive_126 : decode b_mo_arrive 126 = .ok (.iconst 4, 1) := by decide +kernel
theorem d_mo_arrive_127 : decode b_mo_arrive 127 = .ok (.iastore, 1) := by decide +kernel
theorem d_mo_arrive_128 : decode b_mo_arrive 128 = .ok (.aload_n 0, 1) := by decide +kernel
theorem d_mo_arrive_129 : decode b_mo_arrive 129 = .ok (.getfield 32, 3) := by decide +kernel
theorem d_mo_arrive_132 : decode b_mo_arrive 132 = .ok (.bipush 8, 2) := by decide +kernel
theorem d_mo_arrive_134 : decode b_mo_arrive 134 = .ok (.iload_n 1, 1) := by decide +kernel
theorem d_mo_arrive_135 : decode b_mo_arrive 135 = .ok (.imul, 1) := by decide +kernel
theorem d_mo_arrive_136 : decode b_mo_arrive 136 = .ok (.iconst 5, 1) := by decide +kernel
theorem d_mo_arrive_137 : decode b_mo_arrive 137 = .ok (.iadd, 1) := by decide +kernel
theorem d_mo_arrive_138 : decode b_mo_arrive 138 = .ok (.iload_n 3, 1) := by decide +kernel
theorem d_mo_arrive_139 : decode b_mo_arrive 139 = .ok (.iastore, 1) := by decide +kernel
theorem d_mo_arrive_140 : decode b_mo_arrive 140 = .ok (.aload_n 0, 1) := by decide +kernel
theorem d_mo_arrive_141 : decode b_mo_arrive 141 = .ok (.getfield 32, 3) := by decide +kernel
theorem d_mo_arrive_144 : decode b_mo_arrive 144 = .ok (.bipush 8, 2) := by decide +kernel
theorem d_mo_arrive_146 : decode b_mo_arrive 146 = .ok (.iload_n 1, 1) := by decide +kernel
theorem d_mo_arrive_147 : decode b_mo_arrive 147 = .ok (.imul, 1) := by decide +kernel
theorem d_mo_arrive_148 : decode b_mo_arrive 148 = .ok (.iaload, 1) := by decide +kernel
theorem d_mo_arrive_149 : decode b_mo_arrive 149 = .ok (.istore 5, 2) := by decide +kernel
theorem d_mo_arrive_151 : decode b_mo_arrive 151 = .ok (.aload_n 0, 1) := by decide +kernel
theorem d_mo_arrive_152 : decode b_mo_arrive 152 = .ok (.getfield 23, 3) := by decide +kernel
theorem d_mo_arrive_155 : decode b_mo_arrive 155 = .ok (.iconst 3, 1) := by decide +kernel
theorem d_mo_arrive_156 : decode b_mo_arrive 156 = .ok (.iload 5, 2) := by decide +kernel
theorem d_mo_arrive_158 : decode b_mo_arrive 158 = .ok (.imul, 1) := by decide +kernel
theorem d_mo_arrive_159 : decode b_mo_arrive 159 = .ok (.iload_n 2, 1) := by decide +kernel
theorem d_mo_arrive_160 : decode b_mo_arrive 160 = .ok (.iastore, 1) := by decide +kernel
theorem d_mo_arrive_161 : decode b_mo_arrive 161 = .ok (.aload_n 0, 1) := by decide +kernel
theorem d_mo_arrive_162 : decode b_mo_arrive 162 = .ok (.getfield 23, 3) := by decide +kernel
theorem d_mo_arrive_165 : decode b_mo_arrive 165 = .ok (.iconst 3, 1) := by decide +kernel
theorem d_mo_arrive_166 : decode b_mo_arrive 166 = .ok (.iload 5, 2) := by decide +kernel
theorem d_mo_arrive_168 : decode b_mo_arrive 168 = .ok (.imul, 1) := by decide +kernel
theorem d_mo_arrive_169 : decode b_mo_arrive 169 = .ok (.iconst 2, 1) := by decide +kernel
theorem d_mo_arrive_170 : decode b_mo_arrive 170 = .ok (.iadd, 1) := by decide +kernel
theorem d_mo_arrive_171 : decode b_mo_arrive 171 = .ok (.iconst 0, 1) := by decide +kernel
theorem d_mo_arrive_172 : decode b_mo_arrive 172 = .ok (.iastore, 1) := by decide +kernel
theorem d_mo_arrive_173 : decode b_mo_arrive 173 = .ok (.aload_n 0, 1) := by decide +kernel
theorem d_mo_arrive_174 : decode b_mo_arrive 174 = .ok (.getfield 23, 3) := by decide +kernel
theorem d_mo_arrive_177 : decode b_mo_arrive 177 = .ok (.iconst 3, 1) := by decide +kernel
theorem d_mo_arrive_178 : decode b_mo_arrive 178 = .ok (.iload 5, 2) := by decide +kernel
theorem d_mo_arrive_180 : decode b_mo_arrive 180 = .ok (.imul, 1) := by decide +kernel
theorem d_mo_arrive_181 : decode b_mo_arrive 181 = .ok (.iconst 1, 1) := by decide +kernel
theorem d_mo_arrive_182 : decode b_mo_arrive 182 = .ok (.iadd, 1) := by decide +kernel
theorem d_mo_arrive_183 : decode b_mo_arrive 183 = .ok (.iload 4, 2) := by decide +kernel
theorem d_mo_arrive_185 : decode b_mo_arrive 185 = .ok (.ifCond .eq 17, 3) := by decide +kernel
theorem d_mo_arrive_188 : decode b_mo_arrive 188 = .ok (.aload_n 0, 1) := by decide +kernel
theorem d_mo_arrive_189 : decode b_mo_arrive 189 = .ok (.getfield 29, 3) := by decide +kernel
theorem d_mo_arrive_192 : decode b_mo_arrive 192 = .ok (.iload 5, 2) := by decide +kernel
theorem d_mo_arrive_194 : decode b_mo_arrive 194 = .ok (.baload, 1) := by decide +kernel
theorem d_mo_arrive_195 : decode b_mo_arrive 195 = .ok (.ifCond .eq 7, 3) := by decide +kernel
theorem d_mo_arrive_198 : decode b_mo_arrive 198 = .ok (.iload_n 2, 1) := by decide +kernel
theorem d_mo_arrive_199 : decode b_mo_arrive 199 = .ok (.goto 14, 3) := by decide +kernel
theorem d_mo_arrive_202 : decode b_mo_arrive 202 = .ok (.aload_n 0, 1) := by decide +kernel
theorem d_mo_arrive_203 : decode b_mo_arrive 203 = .ok (.getfield 23, 3) := by decide +kernel
theorem d_mo_arrive_206 : decode b_mo_arrive 206 = .ok (.iconst 3, 1) := by decide +kernel
theorem d_mo_arrive_207 : decode b_mo_arrive 207 = .ok (.iload 5, 2) := by decide +kernel
theorem d_mo_arrive_209 : decode b_mo_arrive 209 = .ok (.imul, 1) := by decide +kernel
theorem d_mo_arrive_210 : decode b_mo_arrive 210 = .ok (.iconst 1, 1) := by decide +kernel
theorem d_mo_arrive_211 : decode b_mo_arrive 211 = .ok (.iadd, 1) := by decide +kernel
theorem d_mo_arrive_212 : decode b_mo_arrive 212 = .ok (.iaload, 1) := by decide +kernel
theorem d_mo_arrive_213 : decode b_mo_arrive 213 = .ok (.iastore, 1) := by decide +kernel
theorem d_mo_arrive_214 : decode b_mo_arrive 214 = .ok (.iload 4, 2) := by decide +kernel
theorem d_mo_arrive_216 : decode b_mo_arrive 216 = .ok (.ifCond .eq 7, 3) := by decide +kernel
theorem d_mo_arrive_219 : decode b_mo_arrive 219 = .ok (.iconst 1, 1) := by decide +kernel
theorem d_mo_arrive_220 : decode b_mo_arrive 220 = .ok (.goto 4, 3) := by decide +kernel
theorem d_mo_arrive_223 : decode b_mo_arrive 223 = .ok (.iconst (-1), 1) := by decide +kernel
theorem d_mo_arrive_224 : decode b_mo_arrive 224 = .ok (.ireturn, 1) := by decide +kernel
theorem d_mo_lost_0 : decode b_mo_lost 0 = .ok (.aload_n 0, 1) := by decide +kernel
theorem d_mo_lost_1 : decode b_mo_lost 1 = .ok (.iconst 0, 1) := by decide +kernel
theorem d_mo_lost_2 : decode b_mo_lost 2 = .ok (.putfield 38, 3) := by decide +kernel
theorem d_mo_lost_5 : decode b_mo_lost 5 = .ok (.iload_n 1, 1) := by decide +kernel
theorem d_mo_lost_6 : decode b_mo_lost 6 = .ok (.invokestatic 65, 3) := by decide +kernel
theorem d_mo_lost_9 : decode b_mo_lost 9 = .ok (.ifCond .ne 5, 3) := by decide +kernel
theorem d_mo_lost_12 : decode b_mo_lost 12 = .ok (.iconst (-1), 1) := by decide +kernel
theorem d_mo_lost_13 : decode b_mo_lost 13 = .ok (.ireturn, 1) := by decide +kernel
theorem d_mo_lost_14 : decode b_mo_lost 14 = .ok (.iconst 0, 1) := by decide +kernel
theorem d_mo_lost_15 : decode b_mo_lost 15 = .ok (.istore_n 2, 1) := by decide +kernel
theorem d_mo_lost_16 : decode b_mo_lost 16 = .ok (.iconst 1, 1) := by decide +kernel
theorem d_mo_lost_17 : decode b_mo_lost 17 = .ok (.istore_n 3, 1) := by decide +kernel
theorem d_mo_lost_18 : decode b_mo_lost 18 = .ok (.iload_n 3, 1) := by decide +kernel
theorem d_mo_lost_19 : decode b_mo_lost 19 = .ok (.aload_n 0, 1) := by decide +kernel
theorem d_mo_lost_20 : decode b_mo_lost 20 = .ok (.getfield 51, 3) := by decide +kernel
theorem d_mo_lost_23 : decode b_mo_lost 23 = .ok (.if_icmp .gt 79, 3) := by decide +kernel
theorem d_mo_lost_26 : decode b_mo_lost 26 = .ok (.aload_n 0, 1) := by decide +kernel
theorem d_mo_lost_27 : decode b_mo_lost 27 = .ok (.getfield 32, 3) := by decide +kernel
theorem d_mo_lost_30 : decode b_mo_lost 30 = .ok (.bipush 8, 2) := by decide +kernel
theorem d_mo_lost_32 : decode b_mo_lost 32 = .ok (.iload_n 3, 1) := by decide +kernel
theorem d_mo_lost_33 : decode b_mo_lost 33 = .ok (.imul, 1) := by decide +kernel
theorem d_mo_lost_34 : decode b_mo_lost 34 = .ok (.iconst 2, 1) := by decide +kernel
theorem d_mo_lost_35 : decode b_mo_lost 35 = .ok (.iadd, 1) := by decide +kernel
theorem d_mo_lost_36 : decode b_mo_lost 36 = .ok (.iaload, 1) := by decide +kernel
theorem d_mo_lost_37 : decode b_mo_lost 37 = .ok (.iconst 1, 1) := by decide +kernel
theorem d_mo_lost_38 : decode b_mo_lost 38 = .ok (.if_icmp .ne 58, 3) := by decide +kernel
theorem d_mo_lost_41 : decode b_mo_lost 41 = .ok (.aload_n 0, 1) := by decide +kernel
theorem d_mo_lost_42 : decode b_mo_lost 42 = .ok (.getfield 32, 3) := by decide +kernel
theorem d_mo_lost_45 : decode b_mo_lost 45 = .ok (.bipush 8, 2) := by decide +kernel
theorem d_mo_lost_47 : decode b_mo_lost 47 = .ok (.iload_n 3, 1) := by decide +kernel
theorem d_mo_lost_48 : decode b_mo_lost 48 = .ok (.imul, 1) := by decide +kernel
theorem d_mo_lost_49 : decode b_mo_lost 49 = .ok (.iconst 4, 1) := by decide +kernel
theorem d_mo_lost_50 : decode b_mo_lost 50 = .ok (.iadd, 1) := by decide +kernel
theorem d_mo_lost_51 : decode b_mo_lost 51 = .ok (.iaload, 1) := by decide +kernel
theorem d_mo_lost_52 : decode b_mo_lost 52 = .ok (.aload_n 0, 1) := by decide +kernel
theorem d_mo_lost_53 : decode b_mo_lost 53 = .ok (.getfield 13, 3) := by decide +kernel
theorem d_mo_lost_56 : decode b_mo_lost 56 = .ok (.bipush 6, 2) := by decide +kernel
theorem d_mo_lost_58 : decode b_mo_lost 58 = .ok (.aload_n 0, 1) := by decide +kernel
theorem d_mo_lost_59 : decode b_mo_lost 59 = .ok (.getfield 32, 3) := by decide +kernel
theorem d_mo_lost_62 : decode b_mo_lost 62 = .ok (.bipush 8, 2) := by decide +kernel
theorem d_mo_lost_64 : decode b_mo_lost 64 = .ok (.iload_n 3, 1) := by decide +kernel
theorem d_mo_lost_65 : decode b_mo_lost 65 = .ok (.imul, 1) := by decide +kernel
theorem d_mo_lost_66 : decode b_mo_lost 66 = .ok (.iconst 1, 1) := by decide +kernel
theorem d_mo_lost_67 : decode b_mo_lost 67 = .ok (.iadd, 1) := by decide +kernel
theorem d_mo_lost_68 : decode b_mo_lost 68 = .ok (.iaload, 1) := by decide +kernel
theorem d_mo_lost_69 : decode b_mo_lost 69 = .ok (.imul, 1) := by decide +kernel
theorem d_mo_lost_70 : decode b_mo_lost 70 = .ok (.iconst 3, 1) := by decide +kernel
theorem d_mo_lost_71 : decode b_mo_lost 71 = .ok (.iadd, 1) := by decide +kernel
theorem d_mo_lost_72 : decode b_mo_lost 72 = .ok (.iaload, 1) := by decide +kernel
theorem d_mo_lost_73 : decode b_mo_lost 73 = .ok (.iadd, 1) := by decide +kernel
theorem d_mo_lost_74 : decode b_mo_lost 74 = .ok (.iload_n 1, 1) := by decide +kernel
theorem d_mo_lost_75 : decode b_mo_lost 75 = .ok (.bipush 14, 2) := by decide +kernel
theorem d_mo_lost_77 : decode b_mo_lost 77 = .ok (.isub, 1) := by decide +kernel
theorem d_mo_lost_78 : decode b_mo_lost 78 = .ok (.if_icmp .ge 18, 3) := by decide +kernel
theorem d_mo_lost_81 : decode b_mo_lost 81 = .ok (.aload_n 0, 1) := by decide +kernel
theorem d_mo_lost_82 : decode b_mo_lost 82 = .ok (.getfield 32, 3) := by decide +kernel
theorem d_mo_lost_85 : decode b_mo_lost 85 = .ok (.bipush 8, 2) := by decide +kernel
theorem d_mo_lost_87 : decode b_mo_lost 87 = .ok (.iload_n 3, 1) := by decide +kernel
theorem d_mo_lost_88 : decode b_mo_lost 88 = .ok (.imul, 1) := by decide +kernel
theorem d_mo_lost_89 : decode b_mo_lost 89 = .ok (.iconst 2, 1) := by decide +kernel
theorem d_mo_lost_90 : decode b_mo_lost 90 = .ok (.iadd, 1) := by decide +kernel
theorem d_mo_lost_91 : decode b_mo_lost 91 = .ok (.iconst 3, 1) := by decide +kernel
theorem d_mo_lost_92 : decode b_mo_lost 92 = .ok (.iastore, 1) := by decide +kernel
theorem d_mo_lost_93 : decode b_mo_lost 93 = .ok (.iinc 2 1, 3) := by decide +kernel
theorem d_mo_lost_96 : decode b_mo_lost 96 = .ok (.iinc 3 1, 3) := by decide +kernel
theorem d_mo_lost_99 : decode b_mo_lost 99 = .ok (.goto (-81), 3) := by decide +kernel
theorem d_mo_lost_102 : decode b_mo_lost 102 = .ok (.iload_n 2, 1) := by decide +kernel
theorem d_mo_lost_103 : decode b_mo_lost 103 = .ok (.ireturn, 1) := by decide +kernel
theorem d_mo_slip_0 : decode b_mo_slip 0 = .ok (.aload_n 0, 1) := by decide +kernel
theorem d_mo_slip_1 : decode b_mo_slip 1 = .ok (.iconst 0, 1) := by decide +kernel
theorem d_mo_slip_2 : decode b_mo_slip 2 = .ok (.putfield 38, 3) := by decide +kernel
theorem d_mo_slip_5 : decode b_mo_slip 5 = .ok (.aload_n 0, 1) := by decide +kernel
theorem d_mo_slip_6 : decode b_mo_slip 6 = .ok (.iload_n 1, 1) := by decide +kernel
theorem d_mo_slip_7 : decode b_mo_slip 7 = .ok (.invokevirtual 79, 3) := by decide +kernel
theorem d_mo_slip_10 : decode b_mo_slip 10 = .ok (.ifCond .eq 13, 3) := by decide +kernel
theorem d_mo_slip_13 : decode b_mo_slip 13 = .ok (.iload_n 2, 1) := by decide +kernel
theorem d_mo_slip_14 : decode b_mo_slip 14 = .ok (.ifCond .lt 9, 3) := by decide +kernel
theorem d_mo_slip_17 : decode b_mo_slip 17 = .ok (.iload_n 2, 1) := by decide +kernel
theorem d_mo_slip_18 : decode b_mo_slip 18 = .ok (.bipush 6, 2) := by decide +kernel
theorem d_mo_slip_20 : decode b_mo_slip 20 = .ok (.if_icmp .le 5, 3) := by decide +kernel
theorem d_mo_slip_23 : decode b_mo_slip 23 = .ok (.iconst (-1), 1) := by decide +kernel
theorem d_mo_slip_24 : decode b_mo_slip 24 = .ok (.ireturn, 1) := by decide +kernel
theorem d_mo_slip_25 : decode b_mo_slip 25 = .ok (.iload_n 2, 1) := by decide +kernel
theorem d_mo_slip_26 : decode b_mo_slip 26 = .ok (.iconst 5, 1) := by decide +kernel
theorem d_mo_slip_27 : decode b_mo_slip 27 = .ok (.if_icmp .ge 17, 3) := by decide +kernel
theorem d_mo_slip_30 : decode b_mo_slip 30 = .ok (.aload_n 0, 1) := by decide +kernel
theorem d_mo_slip_31 : decode b_mo_slip 31 = .ok (.getfield 32, 3) := by decide +kernel
theorem d_mo_slip_34 : decode b_mo_slip 34 = .ok (.bipush 8, 2) := by decide +kernel
theorem d_mo_slip_36 : decode b_mo_slip 36 = .ok (.iload_n 1, 1) := by decide +kernel
theorem d_mo_slip_37 : decode b_mo_slip 37 = .ok (.imul, 1) := by decide +kernel
theorem d_mo_slip_38 : decode b_mo_slip 38 = .ok (.iload_n 2, 1) := by decide +kernel
theorem d_mo_slip_39 : decode b_mo_slip 39 = .ok (.iadd, 1) := by decide +kernel
theorem d_mo_slip_40 : decode b_mo_slip 40 = .ok (.iaload, 1) := by decide +kernel
theorem d_mo_slip_41 : decode b_mo_slip 41 = .ok (.goto 55, 3) := by decide +kernel
theorem d_mo_slip_44 : decode b_mo_slip 44 = .ok (.iload_n 2, 1) := by decide +kernel
theorem d_mo_slip_45 : decode b_mo_slip 45 = .ok (.iconst 5, 1) := by decide +kernel
theorem d_mo_slip_46 : decode b_mo_slip 46 = .ok (.if_icmp .ne 39, 3) := by decide +kernel
theorem d_mo_slip_49 : decode b_mo_slip 49 = .ok (.aload_n 0, 1) := by decide +kernel
theorem d_mo_slip_50 : decode b_mo_slip 50 = .ok (.getfield 32, 3) := by decide +kernel
theorem d_mo_slip_53 : decode b_mo_slip 53 = .ok (.bipush 8, 2) := by decide +kernel
theorem d_mo_slip_55 : decode b_mo_slip 55 = .ok (.iload_n 1, 1) := by decide +kernel
theorem d_mo_slip_56 : decode b_mo_slip 56 = .ok (.imul, 1) := by decide +kernel
theorem d_mo_slip_57 : decode b_mo_slip 57 = .ok (.iconst 4, 1) := by decide +kernel
theorem d_mo_slip_58 : decode b_mo_slip 58 = .ok (.iadd, 1) := by decide +kernel
theorem d_mo_slip_59 : decode b_mo_slip 59 = .ok (.iaload, 1) := by decide +kernel
theorem d_mo_slip_60 : decode b_mo_slip 60 = .ok (.aload_n 0, 1) := by decide +kernel
theorem d_mo_slip_61 : decode b_mo_slip 61 = .ok (.getfield 13, 3) := by decide +kernel
theorem d_mo_slip_64 : decode b_mo_slip 64 = .ok (.bipush 6, 2) := by decide +kernel
theorem d_mo_slip_66 : decode b_mo_slip 66 = .ok (.aload_n 0, 1) := by decide +kernel
theorem d_mo_slip_67 : decode b_mo_slip 67 = .ok (.getfield 32, 3) := by decide +kernel
theorem d_mo_slip_70 : decode b_mo_slip 70 = .ok (.bipush 8, 2) := by decide +kernel
theorem d_mo_slip_72 : decode b_mo_slip 72 = .ok (.iload_n 1, 1) := by decide +kernel
theorem d_mo_slip_73 : decode b_mo_slip 73 = .ok (.imul, 1) := by decide +kernel
theorem d_mo_slip_74 : decode b_mo_slip 74 = .ok (.iconst 1, 1) := by decide +kernel
theorem d_mo_slip_75 : decode b_mo_slip 75 = .ok (.iadd, 1) := by decide +kernel
theorem d_mo_slip_76 : decode b_mo_slip 76 = .ok (.iaload, 1) := by decide +kernel
theorem d_mo_slip_77 : decode b_mo_slip 77 = .ok (.imul, 1) := by decide +kernel
theorem d_mo_slip_78 : decode b_mo_slip 78 = .ok (.iconst 3, 1) := by decide +kernel
theorem d_mo_slip_79 : decode b_mo_slip 79 = .ok (.iadd, 1) := by decide +kernel
theorem d_mo_slip_80 : decode b_mo_slip 80 = .ok (.iaload, 1) := by decide +kernel
theorem d_mo_slip_81 : decode b_mo_slip 81 = .ok (.iadd, 1) := by decide +kernel
theorem d_mo_slip_82 : decode b_mo_slip 82 = .ok (.goto 14, 3) := by decide +kernel
theorem d_mo_slip_85 : decode b_mo_slip 85 = .ok (.aload_n 0, 1) := by decide +kernel
theorem d_mo_slip_86 : decode b_mo_slip 86 = .ok (.getfield 32, 3) := by decide +kernel
theorem d_mo_slip_89 : decode b_mo_slip 89 = .ok (.bipush 8, 2) := by decide +kernel
theorem d_mo_slip_91 : decode b_mo_slip 91 = .ok (.iload_n 1, 1) := by decide +kernel
theorem d_mo_slip_92 : decode b_mo_slip 92 = .ok (.imul, 1) := by decide +kernel
theorem d_mo_slip_93 : decode b_mo_slip 93 = .ok (.iconst 5, 1) := by decide +kernel
theorem d_mo_slip_94 : decode b_mo_slip 94 = .ok (.iadd, 1) := by decide +kernel
theorem d_mo_slip_95 : decode b_mo_slip 95 = .ok (.iaload, 1) := by decide +kernel
theorem d_mo_slip_96 : decode b_mo_slip 96 = .ok (.ireturn, 1) := by decide +kernel
theorem d_mo_where_0 : decode b_mo_where 0 = .ok (.aload_n 0, 1) := by decide +kernel
theorem d_mo_where_1 : decode b_mo_where 1 = .ok (.iconst 0, 1) := by decide +kernel
theorem d_mo_where_2 : decode b_mo_where 2 = .ok (.putfield 38, 3) := by decide +kernel
theorem d_mo_where_5 : decode b_mo_where 5 = .ok (.aload_n 0, 1) := by decide +kernel
theorem d_mo_where_6 : decode b_mo_where 6 = .ok (.iload_n 1, 1) := by decide +kernel
theorem d_mo_where_7 : decode b_mo_where 7 = .ok (.invokevirtual 72, 3) := by decide +kernel
theorem d_mo_where_10 : decode b_mo_where 10 = .ok (.ifCond .eq 12, 3) := by decide +kernel
theorem d_mo_where_13 : decode b_mo_where 13 = .ok (.iload_n 2, 1) := by decide +kernel
theorem d_mo_where_14 : decode b_mo_where 14 = .ok (.ifCond .lt 8, 3) := by decide +kernel
theorem d_mo_where_17 : decode b_mo_where 17 = .ok (.iload_n 2, 1) := by decide +kernel
theorem d_mo_where_18 : decode b_mo_where 18 = .ok (.iconst 2, 1) := by decide +kernel
theorem d_mo_where_19 : decode b_mo_where 19 = .ok (.if_icmp .le 7, 3) := by decide +kernel
theorem d_mo_where_22 : decode b_mo_where 22 = .ok (.iconst (-1), 1) := by decide +kernel
theorem d_mo_where_23 : decode b_mo_where 23 = .ok (.goto 13, 3) := by decide +kernel
theorem d_mo_where_26 : decode b_mo_where 26 = .ok (.aload_n 0, 1) := by decide +kernel
theorem d_mo_where_27 : decode b_mo_where 27 = .ok (.getfield 23, 3) := by decide +kernel
theorem d_mo_where_30 : decode b_mo_where 30 = .ok (.iconst 3, 1) := by decide +kernel
theorem d_mo_where_31 : decode b_mo_where 31 = .ok (.iload_n 1, 1) := by decide +kernel
theorem d_mo_where_32 : decode b_mo_where 32 = .ok (.imul, 1) := by decide +kernel
theorem d_mo_where_33 : decode b_mo_where 33 = .ok (.iload_n 2, 1) := by decide +kernel
theorem d_mo_where_34 : decode b_mo_where 34 = .ok (.iadd, 1) := by decide +kernel
theorem d_mo_where_35 : decode b_mo_where 35 = .ok (.iaload, 1) := by decide +kernel
theorem d_mo_where_36 : decode b_mo_where 36 = .ok (.ireturn, 1) := by decide +kernel
theorem d_mo_statistics_0 : decode b_mo_statistics 0 = .ok (.aload_n 0, 1) := by decide +kernel
theorem d_mo_statistics_1 : decode b_mo_statistics 1 = .ok (.iconst 0, 1) := by decide +kernel
theorem d_mo_statistics_2 : decode b_mo_statistics 2 = .ok (.putfield 38, 3) := by decide +kernel
theorem d_mo_statistics_5 : decode b_mo_statistics 5 = .ok (.aload_n 0, 1) := by decide +kernel
theorem d_mo_statistics_6 : decode b_mo_statistics 6 = .ok (.iload_n 1, 1) := by decide +kernel
theorem d_mo_statistics_7 : decode b_mo_statistics 7 = .ok (.invokevirtual 55, 3) := by decide +kernel
theorem d_mo_statistics_10 : decode b_mo_statistics 10 = .ok (.ifCond .eq 20, 3) := by decide +kernel
theorem d_mo_statistics_13 : decode b_mo_statistics 13 = .ok (.aload_n 0, 1) := by decide +kernel
theorem d_mo_statistics_14 : decode b_mo_statistics 14 = .ok (.iload_n 2, 1) := by decide +kernel
theorem d_mo_statistics_15 : decode b_mo_statistics 15 = .ok (.invokevirtual 55, 3) := by decide +kernel
theorem d_mo_statistics_18 : decode b_mo_statistics 18 = .ok (.ifCond .eq 12, 3) := by decide +kernel
theorem d_mo_statistics_21 : decode b_mo_statistics 21 = .ok (.iload_n 3, 1) := by decide +kernel
theorem d_mo_statistics_22 : decode b_mo_statistics 22 = .ok (.ifCond .lt 8, 3) := by decide +kernel
theorem d_mo_statistics_25 : decode b_mo_statistics 25 = .ok (.iload_n 3, 1) := by decide +kernel
theorem d_mo_statistics_26 : decode b_mo_statistics 26 = .ok (.iconst 3, 1) := by decide +kernel
theorem d_mo_statistics_27 : decode b_mo_statistics 27 = .ok (.if_icmp .le 5, 3) := by decide +kernel
theorem d_mo_statistics_30 : decode b_mo_statistics 30 = .ok (.iconst (-1), 1) := by decide +kernel
theorem d_mo_statistics_31 : decode b_mo_statistics 31 = .ok (.ireturn, 1) := by decide +kernel
theorem d_mo_statistics_32 : decode b_mo_statistics 32 = .ok (.iconst 0, 1) := by decide +kernel
theorem d_mo_statistics_33 : decode b_mo_statistics 33 = .ok (.istore 4, 2) := by decide +kernel
theorem d_mo_statistics_35 : decode b_mo_statistics 35 = .ok (.iconst 0, 1) := by decide +kernel
theorem d_mo_statistics_36 : decode b_mo_statistics 36 = .ok (.istore 5, 2) := by decide +kernel
theorem d_mo_statistics_38 : decode b_mo_statistics 38 = .ok (.iconst (-1), 1) := by decide +kernel
theorem d_mo_statistics_39 : decode b_mo_statistics 39 = .ok (.istore 6, 2) := by decide +kernel
theorem d_mo_statistics_41 : decode b_mo_statistics 41 = .ok (.iconst 1, 1) := by decide +kernel
theorem d_mo_statistics_42 : decode b_mo_statistics 42 = .ok (.istore 7, 2) := by decide +kernel
theorem d_mo_statistics_44 : decode b_mo_statistics 44 = .ok (.iload 7, 2) := by decide +kernel
theorem d_mo_statistics_46 : decode b_mo_statistics 46 = .ok (.aload_n 0, 1) := by decide +kernel
theorem d_mo_statistics_47 : decode b_mo_statistics 47 = .ok (.getfield 51, 3) := by decide +kernel
theorem d_mo_statistics_50 : decode b_mo_statistics 50 = .ok (.if_icmp .gt 122, 3) := by decide +kernel
theorem d_mo_statistics_53 : decode b_mo_statistics 53 = .ok (.aload_n 0, 1) := by decide +kernel
theorem d_mo_statistics_54 : decode b_mo_statistics 54 = .ok (.getfield 32, 3) := by decide +kernel
theorem d_mo_statistics_57 : decode b_mo_statistics 57 = .ok (.bipush 8, 2) := by decide +kernel
theorem d_mo_statistics_59 : decode b_mo_statistics 59 = .ok (.iload 7, 2) := by decide +kernel
theorem d_mo_statistics_61 : decode b_mo_statistics 61 = .ok (.imul, 1) := by decide +kernel
theorem d_mo_statistics_62 : decode b_mo_statistics 62 = .ok (.iconst 1, 1) := by decide +kernel
theorem d_mo_statistics_63 : decode b_mo_statistics 63 = .ok (.iadd, 1) := by decide +kernel
theorem d_mo_statistics_64 : decode b_mo_statistics 64 = .ok (.iaload, 1) := by decide +kernel
theorem d_mo_statistics_65 : decode b_mo_statistics 65 = .ok (.istore 8, 2) := by decide +kernel
theorem d_mo_statistics_67 : decode b_mo_statistics 67 = .ok (.aload_n 0, 1) := by decide +kernel
theorem d_mo_statistics_68 : decode b_mo_statistics 68 = .ok (.getfield 32, 3) := by decide +kernel
theorem d_mo_statistics_71 : decode b_mo_statistics 71 = .ok (.bipush 8, 2) := by decide +kernel
theorem d_mo_statistics_73 : decode b_mo_statistics 73 = .ok (.iload 7, 2) := by decide +kernel
theorem d_mo_statistics_75 : decode b_mo_statistics 75 = .ok (.imul, 1) := by decide +kernel
theorem d_mo_statistics_76 : decode b_mo_statistics 76 = .ok (.iconst 2, 1) := by decide +kernel
theorem d_mo_statistics_77 : decode b_mo_statistics 77 = .ok (.iadd, 1) := by decide +kernel
theorem d_mo_statistics_78 : decode b_mo_statistics 78 = .ok (.iaload, 1) := by decide +kernel
theorem d_mo_statistics_79 : decode b_mo_statistics 79 = .ok (.iconst 2, 1) := by decide +kernel
theorem d_mo_statistics_80 : decode b_mo_statistics 80 = .ok (.if_icmp .ne 86, 3) := by decide +kernel
theorem d_mo_statistics_83 : decode b_mo_statistics 83 = .ok (.aload_n 0, 1) := by decide +kernel
theorem d_mo_statistics_84 : decode b_mo_statistics 84 = .ok (.getfield 13, 3) := by decide +kernel
theorem d_mo_statistics_87 : decode b_mo_statistics 87 = .ok (.bipush 6, 2) := by decide +kernel
theorem d_mo_statistics_89 : decode b_mo_statistics 89 = .ok (.iload 8, 2) := by decide +kernel
theorem d_mo_statistics_91 : decode b_mo_statistics 91 = .ok (.imul, 1) := by decide +kernel
theorem d_mo_statistics_92 : decode b_mo_statistics 92 = .ok (.iaload, 1) := by decide +kernel
theorem d_mo_statistics_93 : decode b_mo_statistics 93 = .ok (.iload_n 1, 1) := by decide +kernel
theorem d_mo_statistics_94 : decode b_mo_statistics 94 = .ok (.if_icmp .ne 72, 3) := by decide +kernel
theorem d_mo_statistics_97 : decode b_mo_statistics 97 = .ok (.aload_n 0, 1) := by decide +kernel
theorem d_mo_statistics_98 : decode b_mo_statistics 98 = .ok (.getfield 13, 3) := by decide +kernel
theorem d_mo_statistics_101 : decode b_mo_statistics 101 = .ok (.bipush 6, 2) := by decide +kernel
theorem d_mo_statistics_103 : decode b_mo_statistics 103 = .ok (.iload 8, 2) := by decide +kernel
theorem d_mo_statistics_105 : decode b_mo_statistics 105 = .ok (.imul, 1) := by decide +kernel
theorem d_mo_statistics_106 : decode b_mo_statistics 106 = .ok (.iconst 1, 1) := by decide +kernel
theorem d_mo_statistics_107 : decode b_mo_statistics 107 = .ok (.iadd, 1) := by decide +kernel
theorem d_mo_statistics_108 : decode b_mo_statistics 108 = .ok (.iaload, 1) := by decide +kernel
theorem d_mo_statistics_109 : decode b_mo_statistics 109 = .ok (.iload_n 2, 1) := by decide +kernel
theorem d_mo_statistics_110 : decode b_mo_statistics 110 = .ok (.if_icmp .ne 56, 3) := by decide +kernel
theorem d_mo_statistics_113 : decode b_mo_statistics 113 = .ok (.aload_n 0, 1) := by decide +kernel
theorem d_mo_statistics_114 : decode b_mo_statistics 114 = .ok (.getfield 32, 3) := by decide +kernel
theorem d_mo_statistics_117 : decode b_mo_statistics 117 = .ok (.bipush 8, 2) := by decide +kernel
theorem d_mo_statistics_119 : decode b_mo_statistics 119 = .ok (.iload 7, 2) := by decide +kernel
theorem d_mo_statistics_121 : decode b_mo_statistics 121 = .ok (.imul, 1) := by decide +kernel
theorem d_mo_statistics_122 : decode b_mo_statistics 122 = .ok (.iconst 5, 1) := by decide +kernel
theorem d_mo_statistics_123 : decode b_mo_statistics 123 = .ok (.iadd, 1) := by decide +kernel
theorem d_mo_statistics_124 : decode b_mo_statistics 124 = .ok (.iaload, 1) := by decide +kernel
theorem d_mo_statistics_125 : decode b_mo_statistics 125 = .ok (.aload_n 0, 1) := by decide +kernel
theorem d_mo_statistics_126 : decode b_mo_statistics 126 = .ok (.getfield 32, 3) := by decide +kernel
theorem d_mo_statistics_129 : decode b_mo_statistics 129 = .ok (.bipush 8, 2) := by decide +kernel
theorem d_mo_statistics_131 : decode b_mo_statistics 131 = .ok (.iload 7, 2) := by decide +kernel
theorem d_mo_statistics_133 : decode b_mo_statistics 133 = .ok (.imul, 1) := by decide +kernel
theorem d_mo_statistics_134 : decode b_mo_statistics 134 = .ok (.iconst 3, 1) := by decide +kernel
theorem d_mo_statistics_135 : decode b_mo_statistics 135 = .ok (.iadd, 1) := by decide +kernel
theorem d_mo_statistics_136 : decode b_mo_statistics 136 = .ok (.iaload, 1) := by decide +kernel
theorem d_mo_statistics_137 : decode b_mo_statistics 137 = .ok (.isub, 1) := by decide +kernel
theorem d_mo_statistics_138 : decode b_mo_statistics 138 = .ok (.istore 9, 2) := by decide +kernel
theorem d_mo_statistics_140 : decode b_mo_statistics 140 = .ok (.iinc 4 1, 3) := by decide +kernel
theorem d_mo_statistics_143 : decode b_mo_statistics 143 = .ok (.iload 5, 2) := by decide +kernel
theorem d_mo_statistics_145 : decode b_mo_statistics 145 = .ok (.iload 9, 2) := by decide +kernel
theorem d_mo_statistics_147 : decode b_mo_statistics 147 = .ok (.iadd, 1) := by decide +kernel
theorem d_mo_statistics_148 : decode b_mo_statistics 148 = .ok (.istore 5, 2) := by decide +kernel
theorem d_mo_statistics_150 : decode b_mo_statistics 150 = .ok (.iload 9, 2) := by decide +kernel
theorem d_mo_statistics_152 : decode b_mo_statistics 152 = .ok (.iload 6, 2) := by decide +kernel
theorem d_mo_statistics_154 : decode b_mo_statistics 154 = .ok (.if_icmp .le 8, 3) := by decide +kernel
theorem d_mo_statistics_157 : decode b_mo_statistics 157 = .ok (.iload 9, 2) := by decide +kernel
theorem d_mo_statistics_159 : decode b_mo_statistics 159 = .ok (.goto 5, 3) := by decide +kernel
theorem d_mo_statistics_162 : decode b_mo_statistics 162 = .ok (.iload 6, 2) := by decide +kernel
theorem d_mo_statistics_164 : decode b_mo_statistics 164 = .ok (.istore 6, 2) := by decide +kernel
theorem d_mo_statistics_166 : decode b_mo_statistics 166 = .ok (.iinc 7 1, 3) := by decide +kernel
theorem d_mo_statistics_169 : decode b_mo_statistics 169 = .ok (.goto (-125), 3) := by decide +kernel
theorem d_mo_statistics_172 : decode b_mo_statistics 172 = .ok (.iload_n 3, 1) := by decide +kernel
theorem d_mo_statistics_173 : decode b_mo_statistics 173 = .ok (.iconst 3, 1) := by decide +kernel
theorem d_mo_statistics_174 : decode b_mo_statistics 174 = .ok (.if_icmp .ne 15, 3) := by decide +kernel
theorem d_mo_statistics_177 : decode b_mo_statistics 177 = .ok (.iload 4, 2) := by decide +kernel
theorem d_mo_statistics_179 : decode b_mo_statistics 179 = .ok (.ifCond .ne 10, 3) := by decide +kernel
theorem d_mo_statistics_182 : decode b_mo_statistics 182 = .ok (.aload_n 0, 1) := by decide +kernel
theorem d_mo_statistics_183 : decode b_mo_statistics 183 = .ok (.iconst 1, 1) := by decide +kernel
theorem d_mo_statistics_184 : decode b_mo_statistics 184 = .ok (.putfield 38, 3) := by decide +kernel
theorem d_mo_statistics_187 : decode b_mo_statistics 187 = .ok (.iconst 0, 1) := by decide +kernel
theorem d_mo_statistics_188 : decode b_mo_statistics 188 = .ok (.ireturn, 1) := by decide +kernel
theorem d_mo_statistics_189 : decode b_mo_statistics 189 = .ok (.iload_n 3, 1) := by decide +kernel
theorem d_mo_statistics_190 : decode b_mo_statistics 190 = .ok (.ifCond .ne 8, 3) := by decide +kernel
theorem d_mo_statistics_193 : decode b_mo_statistics 193 = .ok (.iload 4, 2) := by decide +kernel
theorem d_mo_statistics_195 : decode b_mo_statistics 195 = .ok (.goto 28, 3) := by decide +kernel
theorem d_mo_statistics_198 : decode b_mo_statistics 198 = .ok (.iload_n 3, 1) := by decide +kernel
theorem d_mo_statistics_199 : decode b_mo_statistics 199 = .ok (.iconst 1, 1) := by decide +kernel
theorem d_mo_statistics_200 : decode b_mo_statistics 200 = .ok (.if_icmp .ne 8, 3) := by decide +kernel
theorem d_mo_statistics_203 : decode b_mo_statistics 203 = .ok (.iload 5, 2) := by decide +kernel
theorem d_mo_statistics_205 : decode b_mo_statistics 205 = .ok (.goto 18, 3) := by decide +kernel
theorem d_mo_statistics_208 : decode b_mo_statistics 208 = .ok (.iload_n 3, 1) := by decide +kernel
theorem d_mo_statistics_209 : decode b_mo_statistics 209 = .ok (.iconst 2, 1) := by decide +kernel
theorem d_mo_statistics_210 : decode b_mo_statistics 210 = .ok (.if_icmp .ne 8, 3) := by decide +kernel
theorem d_mo_statistics_213 : decode b_mo_statistics 213 = .ok (.iload 6, 2) := by decide +kernel
theorem d_mo_statistics_215 : decode b_mo_statistics 215 = .ok (.goto 8, 3) := by decide +kernel
theorem d_mo_statistics_218 : decode b_mo_statistics 218 = .ok (.iload 5, 2) := by decide +kernel
theorem d_mo_statistics_220 : decode b_mo_statistics 220 = .ok (.iload 4, 2) := by decide +kernel
theorem d_mo_statistics_222 : decode b_mo_statistics 222 = .ok (.idiv, 1) := by decide +kernel
theorem d_mo_statistics_223 : decode b_mo_statistics 223 = .ok (.ireturn, 1) := by decide +kernel
theorem d_mo_told_0 : decode b_mo_told 0 = .ok (.aload_n 0, 1) := by decide +kernel
theorem d_mo_told_1 : decode b_mo_told 1 = .ok (.iconst 0, 1) := by decide +kernel
theorem d_mo_told_2 : decode b_mo_told 2 = .ok (.putfield 38, 3) := by decide +kernel
theorem d_mo_told_5 : decode b_mo_told 5 = .ok (.iload_n 1, 1) := by decide +kernel
theorem d_mo_told_6 : decode b_mo_told 6 = .ok (.ifCond .lt 20, 3) := by decide +kernel
theorem d_mo_told_9 : decode b_mo_told 9 = .ok (.iload_n 1, 1) := by decide +kernel
theorem d_mo_told_10 : decode b_mo_told 10 = .ok (.aload_n 0, 1) := by decide +kernel
theorem d_mo_told_11 : decode b_mo_told 11 = .ok (.getfield 89, 3) := by decide +kernel
theorem d_mo_told_14 : decode b_mo_told 14 = .ok (.if_icmp .ge 12, 3) := by decide +kernel
theorem d_mo_told_17 : decode b_mo_told 17 = .ok (.iload_n 2, 1) := by decide +kernel
theorem d_mo_told_18 : decode b_mo_told 18 = .ok (.ifCond .lt 8, 3) := by decide +kernel
theorem d_mo_told_21 : decode b_mo_told 21 = .ok (.iload_n 2, 1) := by decide +kernel
theorem d_mo_told_22 : decode b_mo_told 22 = .ok (.iconst 1, 1) := by decide +kernel
theorem d_mo_told_23 : decode b_mo_told 23 = .ok (.if_icmp .le 7, 3) := by decide +kernel
theorem d_mo_told_26 : decode b_mo_told 26 = .ok (.iconst (-1), 1) := by decide +kernel
theorem d_mo_told_27 : decode b_mo_told 27 = .ok (.goto 13, 3) := by decide +kernel
theorem d_mo_told_30 : decode b_mo_told 30 = .ok (.aload_n 0, 1) := by decide +kernel
theorem d_mo_told_31 : decode b_mo_told 31 = .ok (.getfield 35, 3) := by decide +kernel
theorem d_mo_told_34 : decode b_mo_told 34 = .ok (.iconst 2, 1) := by decide +kernel
theorem d_mo_told_35 : decode b_mo_told 35 = .ok (.iload_n 1, 1) := by decide +kernel
theorem d_mo_told_36 : decode b_mo_told 36 = .ok (.imul, 1) := by decide +kernel
theorem d_mo_told_37 : decode b_mo_told 37 = .ok (.iload_n 2, 1) := by decide +kernel
theorem d_mo_told_38 : decode b_mo_told 38 = .ok (.iadd, 1) := by decide +kernel
theorem d_mo_told_39 : decode b_mo_told 39 = .ok (.iaload, 1) := by decide +kernel
theorem d_mo_told_40 : decode b_mo_told 40 = .ok (.ireturn, 1) := by decide +kernel
end
section
theorem d_la_law_0 : decode b_la_law 0 = .ok (.new 8, 3) := by decide +kernel
theorem d_la_law_3 : decode b_la_law 3 = .ok (.dup, 1) := by decide +kernel
theorem d_la_law_4 : decode b_la_law 4 = .ok (.invokespecial 15, 3) := by decide +kernel
theorem d_la_law_7 : decode b_la_law 7 = .ok (.astore_n 1, 1) := by decide +kernel
theorem d_la_law_8 : decode b_la_law 8 = .ok (.new 16, 3) := by decide +kernel
theorem d_la_law_11 : decode b_la_law 11 = .ok (.dup, 1) := by decide +kernel
theorem d_la_law_12 : decode b_la_law 12 = .ok (.invokespecial 18, 3) := by decide +kernel
theorem d_la_law_15 : decode b_la_law 15 = .ok (.astore_n 2, 1) := by decide +kernel
theorem d_la_law_16 : decode b_la_law 16 = .ok (.iconst 1, 1) := by decide +kernel
theorem d_la_law_17 : decode b_la_law 17 = .ok (.newarray .long, 2) := by decide +kernel
theorem d_la_law_19 : decode b_la_law 19 = .ok (.astore_n 3, 1) := by decide +kernel
theorem d_la_law_20 : decode b_la_law 20 = .ok (.iconst 0, 1) := by decide +kernel
theorem d_la_law_21 : decode b_la_law 21 = .ok (.istore 4, 2) := by decide +kernel
theorem d_la_law_23 : decode b_la_law 23 = .ok (.iload 4, 2) := by decide +kernel
theorem d_la_law_25 : decode b_la_law 25 = .ok (.aload_n 0, 1) := by decide +kernel
theorem d_la_law_26 : decode b_la_law 26 = .ok (.arraylength, 1) := by decide +kernel
theorem d_la_law_27 : decode b_la_law 27 = .ok (.bipush 6, 2) := by decide +kernel
theorem d_la_law_29 : decode b_la_law 29 = .ok (.isub, 1) := by decide +kernel
theorem d_la_law_30 : decode b_la_law 30 = .ok (.if_icmp .gt 942, 3) := by decide +kernel
theorem d_la_law_33 : decode b_la_law 33 = .ok (.aload_n 0, 1) := by decide +kernel
theorem d_la_law_34 : decode b_la_law 34 = .ok (.iload 4, 2) := by decide +kernel
theorem d_la_law_36 : decode b_la_law 36 = .ok (.iaload, 1) := by decide +kernel
theorem d_la_law_37 : decode b_la_law 37 = .ok (.bipush 31, 2) := by decide +kernel
theorem d_la_law_39 : decode b_la_law 39 = .ok (.iand, 1) := by decide +kernel
theorem d_la_law_40 : decode b_la_law 40 = .ok (.tableswitch 926 0 18 #[92, 105, 158, 231, 296, 321, 374, 427, 476, 501, 550, 587, 624, 661, 710, 735, 772, 809, 889], 92) := by decide +kernel
theorem d_la_law_132 : decode b_la_law 132 = .ok (.aload_n 1, 1) := by decide +kernel
theorem d_la_law_133 : decode b_la_law 133 = .ok (.invokevirtual 19, 3) := by decide +kernel
theorem d_la_law_136 : decode b_la_law 136 = .ok (.aload_n 2, 1) := by decide +kernel
theorem d_la_law_137 : decode b_la_law 137 = .ok (.invokevirtual 23, 3) := by decide +kernel
theorem d_la_law_140 : decode b_la_law 140 = .ok (.if_icmp .eq 826, 3) := by decide +kernel
theorem d_la_law_143 : decode b_la_law 143 = .ok (.iconst 0, 1) := by decide +kernel
theorem d_la_law_144 : decode b_la_law 144 = .ok (.ireturn, 1) := by decide +kernel
theorem d_la_law_145 : decode b_la_law 145 = .ok (.aload_n 1, 1) := by decide +kernel
theorem d_la_law_146 : decode b_la_law 146 = .ok (.aload_n 0, 1) := by decide +kernel
theorem d_la_law_147 : decode b_la_law 147 = .ok (.iload 4, 2) := by decide +kernel
theorem d_la_law_149 : decode b_la_law 149 = .ok (.iconst 1, 1) := by decide +kernel
theorem d_la_law_150 : decode b_la_law 150 = .ok (.iadd, 1) := by decide +kernel
theorem d_la_law_151 : decode b_la_law 151 = .ok (.iaload, 1) := by decide +kernel
theorem d_la_law_152 : decode b_la_law 152 = .ok (.aload_n 0, 1) := by decide +kernel
theorem d_la_law_153 : decode b_la_law 153 = .ok (.iload 4, 2) := by decide +kernel
theorem d_la_law_155 : decode b_la_law 155 = .ok (.iconst 2, 1) := by decide +kernel
theorem d_la_law_156 : decode b_la_law 156 = .ok (.iadd, 1) := by decide +kernel
theorem d_la_law_157 : decode b_la_law 157 = .ok (.iaload, 1) := by decide +kernel
theorem d_la_law_158 : decode b_la_law 158 = .ok (.ifCond .eq 7, 3) := by decide +kernel
theorem d_la_law_161 : decode b_la_law 161 = .ok (.iconst 1, 1) := by decide +kernel
theorem d_la_law_162 : decode b_la_law 162 = .ok (.goto 4, 3) := by decide +kernel
theorem d_la_law_165 : decode b_la_law 165 = .ok (.iconst 0, 1) := by decide +kernel
theorem d_la_law_166 : decode b_la_law 166 = .ok (.invokevirtual 24, 3) := by decide +kernel
theorem d_la_law_169 : decode b_la_law 169 = .ok (.aload_n 2, 1) := by decide +kernel
theorem d_la_law_170 : decode b_la_law 170 = .ok (.aload_n 0, 1) := by decide +kernel
theorem d_la_law_171 : decode b_la_law 171 = .ok (.iload 4, 2) := by decide +kernel
theorem d_la_law_173 : decode b_la_law 173 = .ok (.iconst 1, 1) := by decide +kernel
theorem d_la_law_174 : decode b_la_law 174 = .ok (.iadd, 1) := by decide +kernel
theorem d_la_law_175 : decode b_la_law 175 = .ok (.iaload, 1) := by decide +kernel
theorem d_la_law_176 : decode b_la_law 176 = .ok (.aload_n 0, 1) := by decide +kernel
theorem d_la_law_177 : decode b_la_law 177 = .ok (.iload 4, 2) := by decide +kernel
theorem d_la_law_179 : decode b_la_law 179 = .ok (.iconst 2, 1) := by decide +kernel
theorem d_la_law_180 : decode b_la_law 180 = .ok (.iadd, 1) := by decide +kernel
theorem d_la_law_181 : decode b_la_law 181 = .ok (.iaload, 1) := by decide +kernel
theorem d_la_law_182 : decode b_la_law 182 = .ok (.ifCond .eq 7, 3) := by decide +kernel
theorem d_la_law_185 : decode b_la_law 185 = .ok (.iconst 1, 1) := by decide +kernel
theorem d_la_law_186 : decode b_la_law 186 = .ok (.goto 4, 3) := by decide +kernel
theorem d_la_law_189 : decode b_la_law 189 = .ok (.iconst 0, 1) := by decide +kernel
theorem d_la_law_190 : decode b_la_law 190 = .ok (.invokevirtual 28, 3) := by decide +kernel
theorem d_la_law_193 : decode b_la_law 193 = .ok (.if_icmp .eq 773, 3) := by decide +kernel
theorem d_la_law_196 : decode b_la_law 196 = .ok (.iconst 0, 1) := by decide +kernel
theorem d_la_law_197 : decode b_la_law 197 = .ok (.ireturn, 1) := by decide +kernel
theorem d_la_law_198 : decode b_la_law 198 = .ok (.aload_n 1, 1) := by decide +kernel
theorem d_la_law_199 : decode b_la_law 199 = .ok (.aload_n 0, 1) := by decide +kernel
theorem d_la_law_200 : decode b_la_law 200 = .ok (.iload 4, 2) := by decide +kernel
theorem d_la_law_202 : decode b_la_law 202 = .ok (.iconst 1, 1) := by decide +kernel
theorem d_la_law_203 : decode b_la_law 203 = .ok (.iadd, 1) := by decide +kernel
theorem d_la_law_204 : decode b_la_law 204 = .ok (.iaload, 1) := by decide +kernel
theorem d_la_law_205 : decode b_la_law 205 = .ok (.aload_n 0, 1) := by decide +kernel
theorem d_la_law_206 : decode b_la_law 206 = .ok (.iload 4, 2) := by decide +kernel
theorem d_la_law_208 : decode b_la_law 208 = .ok (.iconst 2, 1) := by decide +kernel
theorem d_la_law_209 : decode b_la_law 209 = .ok (.iadd, 1) := by decide +kernel
theorem d_la_law_210 : decode b_la_law 210 = .ok (.iaload, 1) := by decide +kernel
theorem d_la_law_211 : decode b_la_law 211 = .ok (.aload_n 0, 1) := by decide +kernel
theorem d_la_law_212 : decode b_la_law 212 = .ok (.iload 4, 2) := by decide +kernel
theorem d_la_law_214 : decode b_la_law 214 = .ok (.iconst 3, 1) := by decide +kernel
theorem d_la_law_215 : decode b_la_law 215 = .ok (.iadd, 1) := by decide +kernel
theorem d_la_law_216 : decode b_la_law 216 = .ok (.iaload, 1) := by decide +kernel
theorem d_la_law_217 : decode b_la_law 217 = .ok (.aload_n 0, 1) := by decide +kernel
theorem d_la_law_218 : decode b_la_law 218 = .ok (.iload 4, 2) := by decide +kernel
theorem d_la_law_220 : decode b_la_law 220 = .ok (.iconst 4, 1) := by decide +kernel
theorem d_la_law_221 : decode b_la_law 221 = .ok (.iadd, 1) := by decide +kernel
theorem d_la_law_222 : decode b_la_law 222 = .ok (.iaload, 1) := by decide +kernel
theorem d_la_law_223 : decode b_la_law 223 = .ok (.aload_n 0, 1) := by decide +kernel
theorem d_la_law_224 : decode b_la_law 224 = .ok (.iload 4, 2) := by decide +kernel
theorem d_la_law_226 : decode b_la_law 226 = .ok (.iconst 5, 1) := by decide +kernel
theorem d_la_law_227 : decode b_la_law 227 = .ok (.iadd, 1) := by decide +kernel
theorem d_la_law_228 : decode b_la_law 228 = .ok (.iaload, 1) := by decide +kernel
theorem d_la_law_229 : decode b_la_law 229 = .ok (.invokevirtual 29, 3) := by decide +kernel
theorem d_la_law_232 : decode b_la_law 232 = .ok (.aload_n 2, 1) := by decide +kernel
theorem d_la_law_233 : decode b_la_law 233 = .ok (.aload_n 0, 1) := by decide +kernel
theorem d_la_law_234 : decode b_la_law 234 = .ok (.iload 4, 2) := by decide +kernel
theorem d_la_law_236 : decode b_la_law 236 = .ok (.iconst 1, 1) := by decide +kernel
theorem d_la_law_237 : decode b_la_law 237 = .ok (.iadd, 1) := by decide +kernel
theorem d_la_law_238 : decode b_la_law 238 = .ok (.iaload, 1) := by decide +kernel
theorem d_la_law_239 : decode b_la_law 239 = .ok (.aload_n 0, 1) := by decide +kernel
theorem d_la_law_240 : decode b_la_law 240 = .ok (.iload 4, 2) := by decide +kernel
theorem d_la_law_242 : decode b_la_law 242 = .ok (.iconst 2, 1) := by decide +kernel
theorem d_la_law_243 : decode b_la_law 243 = .ok (.iadd, 1) := by decide +kernel
theorem d_la_law_244 : decode b_la_law 244 = .ok (.iaload, 1) := by decide +kernel
theorem d_la_law_245 : decode b_la_law 245 = .ok (.aload_n 0, 1) := by decide +kernel
theorem d_la_law_246 : decode b_la_law 246 = .ok (.iload 4, 2) := by decide +kernel
theorem d_la_law_248 : decode b_la_law 248 = .ok (.iconst 3, 1) := by decide +kernel
theorem d_la_law_249 : decode b_la_law 249 = .ok (.iadd, 1) := by decide +kernel
theorem d_la_law_250 : decode b_la_law 250 = .ok (.iaload, 1) := by decide +kernel
theorem d_la_law_251 : decode b_la_law 251 = .ok (.aload_n 0, 1) := by decide +kernel
theorem d_la_law_252 : decode b_la_law 252 = .ok (.iload 4, 2) := by decide +kernel
theorem d_la_law_254 : decode b_la_law 254 = .ok (.iconst 4, 1) := by decide +kernel
theorem d_la_law_255 : decode b_la_law 255 = .ok (.iadd, 1) := by decide +kernel
theorem d_la_law_256 : decode b_la_law 256 = .ok (.iaload, 1) := by decide +kernel
theorem d_la_law_257 : decode b_la_law 257 = .ok (.aload_n 0, 1) := by decide +kernel
theorem d_la_law_258 : decode b_la_law 258 = .ok (.iload 4, 2) := by decide +kernel
theorem d_la_law_260 : decode b_la_law 260 = .ok (.iconst 5, 1) := by decide +kernel
theorem d_la_law_261 : decode b_la_law 261 = .ok (.iadd, 1) := by decide +kernel
theorem d_la_law_262 : decode b_la_law 262 = .ok (.iaload, 1) := by decide +kernel
theorem d_la_law_263 : decode b_la_law 263 = .ok (.invokevirtual 33, 3) := by decide +kernel
theorem d_la_law_266 : decode b_la_law 266 = .ok (.if_icmp .eq 700, 3) := by decide +kernel
theorem d_la_law_269 : decode b_la_law 269 = .ok (.iconst 0, 1) := by decide +kernel
theorem d_la_law_270 : decode b_la_law 270 = .ok (.ireturn, 1) := by decide +kernel
theorem d_la_law_271 : decode b_la_law 271 = .ok (.aload_n 1, 1) := by decide +kernel
theorem d_la_law_272 : decode b_la_law 272 = .ok (.aload_n 0, 1) := by decide +kernel
theorem d_la_law_273 : decode b_la_law 273 = .ok (.iload 4, 2) := by decide +kernel
theorem d_la_law_275 : decode b_la_law 275 = .ok (.iconst 1, 1) := by decide +kernel
theorem d_la_law_276 : decode b_la_law 276 = .ok (.iadd, 1) := by decide +kernel
theorem d_la_law_277 : decode b_la_law 277 = .ok (.iaload, 1) := by decide +kernel
theorem d_la_law_278 : decode b_la_law 278 = .ok (.aload_n 0, 1) := by decide +kernel
theorem d_la_law_279 : decode b_la_law 279 = .ok (.iload 4, 2) := by decide +kernel
theorem d_la_law_281 : decode b_la_law 281 = .ok (.iconst 2, 1) := by decide +kernel
theorem d_la_law_282 : decode b_la_law 282 = .ok (.iadd, 1) := by decide +kernel
theorem d_la_law_283 : decode b_la_law 283 = .ok (.iaload, 1) := by decide +kernel
theorem d_la_law_284 : decode b_la_law 284 = .ok (.aload_n 0, 1) := by decide +kernel
theorem d_la_law_285 : decode b_la_law 285 = .ok (.iload 4, 2) := by decide +kernel
theorem d_la_law_287 : decode b_la_law 287 = .ok (.iconst 3, 1) := by decide +kernel
theorem d_la_law_288 : decode b_la_law 288 = .ok (.iadd, 1) := by decide +kernel
theorem d_la_law_289 : decode b_la_law 289 = .ok (.iaload, 1) := by decide +kernel
theorem d_la_law_290 : decode b_la_law 290 = .ok (.ifCond .eq 7, 3) := by decide +kernel
theorem d_la_law_293 : decode b_la_law 293 = .ok (.iconst 1, 1) := by decide +kernel
theorem d_la_law_294 : decode b_la_law 294 = .ok (.goto 4, 3) := by decide +kernel
theorem d_la_law_297 : decode b_la_law 297 = .ok (.iconst 0, 1) := by decide +kernel
theorem d_la_law_298 : decode b_la_law 298 = .ok (.invokevirtual 34, 3) := by decide +kernel
theorem d_la_law_301 : decode b_la_law 301 = .ok (.aload_n 2, 1) := by decide +kernel
theorem d_la_law_302 : decode b_la_law 302 = .ok (.aload_n 0, 1) := by decide +kernel
theorem d_la_law_303 : decode b_la_law 303 = .ok (.iload 4, 2) := by decide +kernel
theorem d_la_law_305 : decode b_la_law 305 = .ok (.iconst 1, 1) := by decide +kernel
theorem d_la_law_306 : decode b_la_law 306 = .ok (.iadd, 1) := by decide +kernel
theorem d_la_law_307 : decode b_la_law 307 = .ok (.iaload, 1) := by decide +kernel
theorem d_la_law_308 : decode b_la_law 308 = .ok (.aload_n 0, 1) := by decide +kernel
theorem d_la_law_309 : decode b_la_law 309 = .ok (.iload 4, 2) := by decide +kernel
theorem d_la_law_311 : decode b_la_law 311 = .ok (.iconst 2, 1) := by decide +kernel
theorem d_la_law_312 : decode b_la_law 312 = .ok (.iadd, 1) := by decide +kernel
theorem d_la_law_313 : decode b_la_law 313 = .ok (.iaload, 1) := by decide +kernel
theorem d_la_law_314 : decode b_la_law 314 = .ok (.aload_n 0, 1) := by decide +kernel
theorem d_la_law_315 : decode b_la_law 315 = .ok (.iload 4, 2) := by decide +kernel
theorem d_la_law_317 : decode b_la_law 317 = .ok (.iconst 3, 1) := by decide +kernel
theorem d_la_law_318 : decode b_la_law 318 = .ok (.iadd, 1) := by decide +kernel
theorem d_la_law_319 : decode b_la_law 319 = .ok (.iaload, 1) := by decide +kernel
theorem d_la_law_320 : decode b_la_law 320 = .ok (.ifCond .eq 7, 3) := by decide +kernel
theorem d_la_law_323 : decode b_la_law 323 = .ok (.iconst 1, 1) := by decide +kernel
theorem d_la_law_324 : decode b_la_law 324 = .ok (.goto 4, 3) := by decide +kernel
theorem d_la_law_327 : decode b_la_law 327 = .ok (.iconst 0, 1) := by decide +kernel
theorem d_la_law_328 : decode b_la_law 328 = .ok (.invokevirtual 38, 3) := by decide +kernel
theorem d_la_law_331 : decode b_la_law 331 = .ok (.if_icmp .eq 635, 3) := by decide +kernel
theorem d_la_law_334 : decode b_la_law 334 = .ok (.iconst 0, 1) := by decide +kernel
theorem d_la_law_335 : decode b_la_law 335 = .ok (.ireturn, 1) := by decide +kernel
theorem d_la_law_336 : decode b_la_law 336 = .ok (.aload_n 1, 1) := by decide +kernel
theorem d_la_law_337 : decode b_la_law 337 = .ok (.aload_n 0, 1) := by decide +kernel
theorem d_la_law_338 : decode b_la_law 338 = .ok (.iload 4, 2) := by decide +kernel
theorem d_la_law_340 : decode b_la_law 340 = .ok (.iconst 1, 1) := by decide +kernel
theorem d_la_law_341 : decode b_la_law 341 = .ok (.iadd, 1) := by decide +kernel
theorem d_la_law_342 : decode b_la_law 342 = .ok (.iaload, 1) := by decide +kernel
theorem d_la_law_343 : decode b_la_law 343 = .ok (.invokevirtual 39, 3) := by decide +kernel
theorem d_la_law_346 : decode b_la_law 346 = .ok (.aload_n 2, 1) := by decide +kernel
theorem d_la_law_347 : decode b_la_law 347 = .ok (.aload_n 0, 1) := by decide +kernel
theorem d_la_law_348 : decode b_la_law 348 = .ok (.iload 4, 2) := by decide +kernel
theorem d_la_law_350 : decode b_la_law 350 = .ok (.iconst 1, 1) := by decide +kernel
theorem d_la_law_351 : decode b_la_law 351 = .ok (.iadd, 1) := by decide +kernel
theorem d_la_law_352 : decode b_la_law 352 = .ok (.iaload, 1) := by decide +kernel
theorem d_la_law_353 : decode b_la_law 353 = .ok (.invokevirtual 43, 3) := by decide +kernel
theorem d_la_law_356 : decode b_la_law 356 = .ok (.if_icmp .eq 610, 3) := by decide +kernel
theorem d_la_law_359 : decode b_la_law 359 = .ok (.iconst 0, 1) := by decide +kernel
theorem d_la_law_360 : decode b_la_law 360 = .ok (.ireturn, 1) := by decide +kernel
theorem d_la_law_361 : decode b_la_law 361 = .ok (.aload_n 1, 1) := by decide +kernel
theorem d_la_law_362 : decode b_la_law 362 = .ok (.aload_n 0, 1) := by decide +kernel
theorem d_la_law_363 : decode b_la_law 363 = .ok (.iload 4, 2) := by decide +kernel
theorem d_la_law_365 : decode b_la_law 365 = .ok (.iconst 1, 1) := by decide +kernel
theorem d_la_law_366 : decode b_la_law 366 = .ok (.iadd, 1) := by decide +kernel
theorem d_la_law_367 : decode b_la_law 367 = .ok (.iaload, 1) := by decide +kernel
theorem d_la_law_368 : decode b_la_law 368 = .ok (.aload_n 0, 1) := by decide +kernel
theorem d_la_law_369 : decode b_la_law 369 = .ok (.iload 4, 2) := by decide +kernel
theorem d_la_law_371 : decode b_la_law 371 = .ok (.iconst 2, 1) := by decide +kernel
theorem d_la_law_372 : decode b_la_law 372 = .ok (.iadd, 1) := by decide +kernel
theorem d_la_law_373 : decode b_la_law 373 = .ok (.iaload, 1) := by decide +kernel
theorem d_la_law_374 : decode b_la_law 374 = .ok (.ifCond .eq 7, 3) := by decide +kernel
theorem d_la_law_377 : decode b_la_law 377 = .ok (.iconst 1, 1) := by decide +kernel
theorem d_la_law_378 : decode b_la_law 378 = .ok (.goto 4, 3) := by decide +kernel
theorem d_la_law_381 : decode b_la_law 381 = .ok (.iconst 0, 1) := by decide +kernel
theorem d_la_law_382 : decode b_la_law 382 = .ok (.invokevirtual 44, 3) := by decide +kernel
theorem d_la_law_385 : decode b_la_law 385 = .ok (.aload_n 2, 1) := by decide +kernel
theorem d_la_law_386 : decode b_la_law 386 = .ok (.aload_n 0, 1) := by decide +kernel
theorem d_la_law_387 : decode b_la_law 387 = .ok (.iload 4, 2) := by decide +kernel
theorem d_la_law_389 : decode b_la_law 389 = .ok (.iconst 1, 1) := by decide +kernel
theorem d_la_law_390 : decode b_la_law 390 = .ok (.iadd, 1) := by decide +kernel
theorem d_la_law_391 : decode b_la_law 391 = .ok (.iaload, 1) := by decide +kernel
theorem d_la_law_392 : decode b_la_law 392 = .ok (.aload_n 0, 1) := by decide +kernel
theorem d_la_law_393 : decode b_la_law 393 = .ok (.iload 4, 2) := by decide +kernel
theorem d_la_law_395 : decode b_la_law 395 = .ok (.iconst 2, 1) := by decide +kernel
theorem d_la_law_396 : decode b_la_law 396 = .ok (.iadd, 1) := by decide +kernel
theorem d_la_law_397 : decode b_la_law 397 = .ok (.iaload, 1) := by decide +kernel
theorem d_la_law_398 : decode b_la_law 398 = .ok (.ifCond .eq 7, 3) := by decide +kernel
theorem d_la_law_401 : decode b_la_law 401 = .ok (.iconst 1, 1) := by decide +kernel
theorem d_la_law_402 : decode b_la_law 402 = .ok (.goto 4, 3) := by decide +kernel
theorem d_la_law_405 : decode b_la_law 405 = .ok (.iconst 0, 1) := by decide +kernel
theorem d_la_law_406 : decode b_la_law 406 = .ok (.invokevirtual 47, 3) := by decide +kernel
theorem d_la_law_409 : decode b_la_law 409 = .ok (.if_icmp .eq 557, 3) := by decide +kernel
theorem d_la_law_412 : decode b_la_law 412 = .ok (.iconst 0, 1) := by decide +kernel
theorem d_la_law_413 : decode b_la_law 413 = .ok (.ireturn, 1) := by decide +kernel
theorem d_la_law_414 : decode b_la_law 414 = .ok (.aload_n 1, 1) := by decide +kernel
theorem d_la_law_415 : decode b_la_law 415 = .ok (.aload_n 0, 1) := by decide +kernel
theorem d_la_law_416 : decode b_la_law 416 = .ok (.iload 4, 2) := by decide +kernel
theorem d_la_law_418 : decode b_la_law 418 = .ok (.iconst 1, 1) := by decide +kernel
theorem d_la_law_419 : decode b_la_law 419 = .ok (.iadd, 1) := by decide +kernel
theorem d_la_law_420 : decode b_la_law 420 = .ok (.iaload, 1) := by decide +kernel
theorem d_la_law_421 : decode b_la_law 421 = .ok (.aload_n 0, 1) := by decide +kernel
theorem d_la_law_422 : decode b_la_law 422 = .ok (.iload 4, 2) := by decide +kernel
theorem d_la_law_424 : decode b_la_law 424 = .ok (.iconst 2, 1) := by decide +kernel
theorem d_la_law_425 : decode b_la_law 425 = .ok (.iadd, 1) := by decide +kernel
theorem d_la_law_426 : decode b_la_law 426 = .ok (.iaload, 1) := by decide +kernel
theorem d_la_law_427 : decode b_la_law 427 = .ok (.ifCond .eq 7, 3) := by decide +kernel
theorem d_la_law_430 : decode b_la_law 430 = .ok (.iconst 1, 1) := by decide +kernel
theorem d_la_law_431 : decode b_la_law 431 = .ok (.goto 4, 3) := by decide +kernel
theorem d_la_law_434 : decode b_la_law 434 = .ok (.iconst 0, 1) := by decide +kernel
theorem d_la_law_435 : decode b_la_law 435 = .ok (.invokevirtual 48, 3) := by decide +kernel
theorem d_la_law_438 : decode b_la_law 438 = .ok (.aload_n 2, 1) := by decide +kernel
theorem d_la_law_439 : decode b_la_law 439 = .ok (.aload_n 0, 1) := by decide +kernel
theorem d_la_law_440 : decode b_la_law 440 = .ok (.iload 4, 2) := by decide +kernel
theorem d_la_law_442 : decode b_la_law 442 = .ok (.iconst 1, 1) := by decide +kernel
theorem d_la_law_443 : decode b_la_law 443 = .ok (.iadd, 1) := by decide +kernel
theorem d_la_law_444 : decode b_la_law 444 = .ok (.iaload, 1) := by decide +kernel
theorem d_la_law_445 : decode b_la_law 445 = .ok (.aload_n 0, 1) := by decide +kernel
theorem d_la_law_446 : decode b_la_law 446 = .ok (.iload 4, 2) := by decide +kernel
theorem d_la_law_448 : decode b_la_law 448 = .ok (.iconst 2, 1) := by decide +kernel
theorem d_la_law_449 : decode b_la_law 449 = .ok (.iadd, 1) := by decide +kernel
theorem d_la_law_450 : decode b_la_law 450 = .ok (.iaload, 1) := by decide +kernel
theorem d_la_law_451 : decode b_la_law 451 = .ok (.ifCond .eq 7, 3) := by decide +kernel
theorem d_la_law_454 : decode b_la_law 454 = .ok (.iconst 1, 1) := by decide +kernel
theorem d_la_law_455 : decode b_la_law 455 = .ok (.goto 4, 3) := by decide +kernel
theorem d_la_law_458 : decode b_la_law 458 = .ok (.iconst 0, 1) := by decide +kernel
theorem d_la_law_459 : decode b_la_law 459 = .ok (.invokevirtual 51, 3) := by decide +kernel
theorem d_la_law_462 : decode b_la_law 462 = .ok (.if_icmp .eq 504, 3) := by decide +kernel
theorem d_la_law_465 : decode b_la_law 465 = .ok (.iconst 0, 1) := by decide +kernel
theorem d_la_law_466 : decode b_la_law 466 = .ok (.ireturn, 1) := by decide +kernel
theorem d_la_law_467 : decode b_la_law 467 = .ok (.aload_n 1, 1) := by decide +kernel
theorem d_la_law_468 : decode b_la_law 468 = .ok (.aload_n 0, 1) := by decide +kernel
theorem d_la_law_469 : decode b_la_law 469 = .ok (.iload 4, 2) := by decide +kernel
theorem d_la_law_471 : decode b_la_law 471 = .ok (.iconst 1, 1) := by decide +kernel
theorem d_la_law_472 : decode b_la_law 472 = .ok (.iadd, 1) := by decide +kernel
theorem d_la_law_473 : decode b_la_law 473 = .ok (.iaload, 1) := by decide +kernel
theorem d_la_law_474 : decode b_la_law 474 = .ok (.aload_n 0, 1) := by decide +kernel
theorem d_la_law_475 : decode b_la_law 475 = .ok (.iload 4, 2) := by decide +kernel
theorem d_la_law_477 : decode b_la_law 477 = .ok (.iconst 2, 1) := by decide +kernel
theorem d_la_law_478 : decode b_la_law 478 = .ok (.iadd, 1) := by decide +kernel
theorem d_la_law_479 : decode b_la_law 479 = .ok (.iaload, 1) := by decide +kernel
theorem d_la_law_480 : decode b_la_law 480 = .ok (.aload_n 0, 1) := by decide +kernel
theorem d_la_law_481 : decode b_la_law 481 = .ok (.iload 4, 2) := by decide +kernel
theorem d_la_law_483 : decode b_la_law 483 = .ok (.iconst 3, 1) := by decide +kernel
theorem d_la_law_484 : decode b_la_law 484 = .ok (.iadd, 1) := by decide +kernel
theorem d_la_law_485 : decode b_la_law 485 = .ok (.iaload, 1) := by decide +kernel
theorem d_la_law_486 : decode b_la_law 486 = .ok (.invokevirtual 52, 3) := by decide +kernel
theorem d_la_law_489 : decode b_la_law 489 = .ok (.aload_n 2, 1) := by decide +kernel
theorem d_la_law_490 : decode b_la_law 490 = .ok (.aload_n 0, 1) := by decide +kernel
theorem d_la_law_491 : decode b_la_law 491 = .ok (.iload 4, 2) := by decide +kernel
theorem d_la_law_493 : decode b_la_law 493 = .ok (.iconst 1, 1) := by decide +kernel
theorem d_la_law_494 : decode b_la_law 494 = .ok (.iadd, 1) := by decide +kernel
theorem d_la_law_495 : decode b_la_law 495 = .ok (.iaload, 1) := by decide +kernel
theorem d_la_law_496 : decode b_la_law 496 = .ok (.aload_n 0, 1) := by decide +kernel
theorem d_la_law_497 : decode b_la_law 497 = .ok (.iload 4, 2) := by decide +kernel
theorem d_la_law_499 : decode b_la_law 499 = .ok (.iconst 2, 1) := by decide +kernel
theorem d_la_law_500 : decode b_la_law 500 = .ok (.iadd, 1) := by decide +kernel
theorem d_la_law_501 : decode b_la_law 501 = .ok (.iaload, 1) := by decide +kernel
theorem d_la_law_502 : decode b_la_law 502 = .ok (.aload_n 0, 1) := by decide +kernel
theorem d_la_law_503 : decode b_la_law 503 = .ok (.iload 4, 2) := by decide +kernel
theorem d_la_law_505 : decode b_la_law 505 = .ok (.iconst 3, 1) := by decide +kernel
theorem d_la_law_506 : decode b_la_law 506 = .ok (.iadd, 1) := by decide +kernel
theorem d_la_law_507 : decode b_la_law 507 = .ok (.iaload, 1) := by decide +kernel
theorem d_la_law_508 : decode b_la_law 508 = .ok (.invokevirtual 55, 3) := by decide +kernel
theorem d_la_law_511 : decode b_la_law 511 = .ok (.if_icmp .eq 455, 3) := by decide +kernel
theorem d_la_law_514 : decode b_la_law 514 = .ok (.iconst 0, 1) := by decide +kernel
theorem d_la_law_515 : decode b_la_law 515 = .ok (.ireturn, 1) := by decide +kernel
theorem d_la_law_516 : decode b_la_law 516 = .ok (.aload_n 1, 1) := by decide +kernel
theorem d_la_law_517 : decode b_la_law 517 = .ok (.aload_n 0, 1) := by decide +kernel
theorem d_la_law_518 : decode b_la_law 518 = .ok (.iload 4, 2) := by decide +kernel
theorem d_la_law_520 : decode b_la_law 520 = .ok (.iconst 1, 1) := by decide +kernel
theorem d_la_law_521 : decode b_la_law 521 = .ok (.iadd, 1) := by decide +kernel
theorem d_la_law_522 : decode b_la_law 522 = .ok (.iaload, 1) := by decide +kernel
theorem d_la_law_523 : decode b_la_law 523 = .ok (.invokevirtual 56, 3) := by decide +kernel
theorem d_la_law_526 : decode b_la_law 526 = .ok (.aload_n 2, 1) := by decide +kernel
theorem d_la_law_527 : decode b_la_law 527 = .ok (.aload_n 0, 1) := by decide +kernel
theorem d_la_law_528 : decode b_la_law 528 = .ok (.iload 4, 2) := by decide +kernel
theorem d_la_law_530 : decode b_la_law 530 = .ok (.iconst 1, 1) := by decide +kernel
theorem d_la_law_531 : decode b_la_law 531 = .ok (.iadd, 1) := by decide +kernel
theorem d_la_law_532 : decode b_la_law 532 = .ok (.iaload, 1) := by decide +kernel
theorem d_la_law_533 : decode b_la_law 533 = .ok (.invokevirtual 59, 3) := by decide +kernel
theorem d_la_law_536 : decode b_la_law 536 = .ok (.if_icmp .eq 430, 3) := by decide +kernel
theorem d_la_law_539 : decode b_la_law 539 = .ok (.iconst 0, 1) := by decide +kernel
theorem d_la_law_540 : decode b_la_law 540 = .ok (.ireturn, 1) := by decide +kernel
theorem d_la_law_541 : decode b_la_law 541 = .ok (.aload_n 1, 1) := by decide +kernel
theorem d_la_law_542 : decode b_la_law 542 = .ok (.aload_n 0, 1) := by decide +kernel
theorem d_la_law_543 : decode b_la_law 543 = .ok (.iload 4, 2) := by decide +kernel
theorem d_la_law_545 : decode b_la_law 545 = .ok (.iconst 1, 1) := by decide +kernel
theorem d_la_law_546 : decode b_la_law 546 = .ok (.iadd, 1) := by decide +kernel
theorem d_la_law_547 : decode b_la_law 547 = .ok (.iaload, 1) := by decide +kernel
theorem d_la_law_548 : decode b_la_law 548 = .ok (.aload_n 0, 1) := by decide +kernel
theorem d_la_law_549 : decode b_la_law 549 = .ok (.iload 4, 2) := by decide +kernel
theorem d_la_law_551 : decode b_la_law 551 = .ok (.iconst 2, 1) := by decide +kernel
theorem d_la_law_552 : decode b_la_law 552 = .ok (.iadd, 1) := by decide +kernel
theorem d_la_law_553 : decode b_la_law 553 = .ok (.iaload, 1) := by decide +kernel
theorem d_la_law_554 : decode b_la_law 554 = .ok (.aload_n 0, 1) := by decide +kernel
theorem d_la_law_555 : decode b_la_law 555 = .ok (.iload 4, 2) := by decide +kernel
theorem d_la_law_557 : decode b_la_law 557 = .ok (.iconst 3, 1) := by decide +kernel
theorem d_la_law_558 : decode b_la_law 558 = .ok (.iadd, 1) := by decide +kernel
theorem d_la_law_559 : decode b_la_law 559 = .ok (.iaload, 1) := by decide +kernel
theorem d_la_law_560 : decode b_la_law 560 = .ok (.invokevirtual 60, 3) := by decide +kernel
theorem d_la_law_563 : decode b_la_law 563 = .ok (.aload_n 2, 1) := by decide +kernel
theorem d_la_law_564 : decode b_la_law 564 = .ok (.aload_n 0, 1) := by decide +kernel
theorem d_la_law_565 : decode b_la_law 565 = .ok (.iload 4, 2) := by decide +kernel
theorem d_la_law_567 : decode b_la_law 567 = .ok (.iconst 1, 1) := by decide +kernel
theorem d_la_law_568 : decode b_la_law 568 = .ok (.iadd, 1) := by decide +kernel
theorem d_la_law_569 : decode b_la_law 569 = .ok (.iaload, 1) := by decide +kernel
theorem d_la_law_570 : decode b_la_law 570 = .ok (.aload_n 0, 1) := by decide +kernel
theorem d_la_law_571 : decode b_la_law 571 = .ok (.iload 4, 2) := by decide +kernel
theorem d_la_law_573 : decode b_la_law 573 = .ok (.iconst 2, 1) := by decide +kernel
theorem d_la_law_574 : decode b_la_law 574 = .ok (.iadd, 1) := by decide +kernel
theorem d_la_law_575 : decode b_la_law 575 = .ok (.iaload, 1) := by decide +kernel
theorem d_la_law_576 : decode b_la_law 576 = .ok (.aload_n 0, 1) := by decide +kernel
theorem d_la_law_577 : decode b_la_law 577 = .ok (.iload 4, 2) := by decide +kernel
theorem d_la_law_579 : decode b_la_law 579 = .ok (.iconst 3, 1) := by decide +kernel
theorem d_la_law_580 : decode b_la_law 580 = .ok (.iadd, 1) := by decide +kernel
theorem d_la_law_581 : decode b_la_law 581 = .ok (.iaload, 1) := by decide +kernel
theorem d_la_law_582 : decode b_la_law 582 = .ok (.invokevirtual 63, 3) := by decide +kernel
theorem d_la_law_585 : decode b_la_law 585 = .ok (.if_icmp .eq 381, 3) := by decide +kernel
theorem d_la_law_588 : decode b_la_law 588 = .ok (.iconst 0, 1) := by decide +kernel
theorem d_la_law_589 : decode b_la_law 589 = .ok (.ireturn, 1) := by decide +kernel
theorem d_la_law_590 : decode b_la_law 590 = .ok (.aload_n 1, 1) := by decide +kernel
theorem d_la_law_591 : decode b_la_law 591 = .ok (.aload_n 0, 1) := by decide +kernel
theorem d_la_law_592 : decode b_la_law 592 = .ok (.iload 4, 2) := by decide +kernel
theorem d_la_law_594 : decode b_la_law 594 = .ok (.iconst 1, 1) := by decide +kernel
theorem d_la_law_595 : decode b_la_law 595 = .ok (.iadd, 1) := by decide +kernel
theorem d_la_law_596 : decode b_la_law 596 = .ok (.iaload, 1) := by decide +kernel
theorem d_la_law_597 : decode b_la_law 597 = .ok (.aload_n 0, 1) := by decide +kernel
theorem d_la_law_598 : decode b_la_law 598 = .ok (.iload 4, 2) := by decide +kernel
theorem d_la_law_600 : decode b_la_law 600 = .ok (.iconst 2, 1) := by decide +kernel
theorem d_la_law_601 : decode b_la_law 601 = .ok (.iadd, 1) := by decide +kernel
theorem d_la_law_602 : decode b_la_law 602 = .ok (.iaload, 1) := by decide +kernel
theorem d_la_law_603 : decode b_la_law 603 = .ok (.invokevirtual 64, 3) := by decide +kernel
theorem d_la_law_606 : decode b_la_law 606 = .ok (.aload_n 2, 1) := by decide +kernel
theorem d_la_law_607 : decode b_la_law 607 = .ok (.aload_n 0, 1) := by decide +kernel
theorem d_la_law_608 : decode b_la_law 608 = .ok (.iload 4, 2) := by decide +kernel
theorem d_la_law_610 : decode b_la_law 610 = .ok (.iconst 1, 1) := by decide +kernel
theorem d_la_law_611 : decode b_la_law 611 = .ok (.iadd, 1) := by decide +kernel
theorem d_la_law_612 : decode b_la_law 612 = .ok (.iaload, 1) := by decide +kernel
theorem d_la_law_613 : decode b_la_law 613 = .ok (.aload_n 0, 1) := by decide +kernel
theorem d_la_law_614 : decode b_la_law 614 = .ok (.iload 4, 2) := by decide +kernel
theorem d_la_law_616 : decode b_la_law 616 = .ok (.iconst 2, 1) := by decide +kernel
theorem d_la_law_617 : decode b_la_law 617 = .ok (.iadd, 1) := by decide +kernel
theorem d_la_law_618 : decode b_la_law 618 = .ok (.iaload, 1) := by decide +kernel
theorem d_la_law_619 : decode b_la_law 619 = .ok (.invokevirtual 68, 3) := by decide +kernel
theorem d_la_law_622 : decode b_la_law 622 = .ok (.if_icmp .eq 344, 3) := by decide +kernel
theorem d_la_law_625 : decode b_la_law 625 = .ok (.iconst 0, 1) := by decide +kernel
theorem d_la_law_626 : decode b_la_law 626 = .ok (.ireturn, 1) := by decide +kernel
theorem d_la_law_627 : decode b_la_law 627 = .ok (.aload_n 1, 1) := by decide +kernel
theorem d_la_law_628 : decode b_la_law 628 = .ok (.aload_n 0, 1) := by decide +kernel
theorem d_la_law_629 : decode b_la_law 629 = .ok (.iload 4, 2) := by decide +kernel
theorem d_la_law_631 : decode b_la_law 631 = .ok (.iconst 1, 1) := by decide +kernel
theorem d_la_law_632 : decode b_la_law 632 = .ok (.iadd, 1) := by decide +kernel
theorem d_la_law_633 : decode b_la_law 633 = .ok (.iaload, 1) := by decide +kernel
theorem d_la_law_634 : decode b_la_law 634 = .ok (.aload_n 0, 1) := by decide +kernel
theorem d_la_law_635 : decode b_la_law 635 = .ok (.iload 4, 2) := by decide +kernel
theorem d_la_law_637 : decode b_la_law 637 = .ok (.iconst 2, 1) := by decide +kernel
theorem d_la_law_638 : decode b_la_law 638 = .ok (.iadd, 1) := by decide +kernel
theorem d_la_law_639 : decode b_la_law 639 = .ok (.iaload, 1) := by decide +kernel
theorem d_la_law_640 : decode b_la_law 640 = .ok (.invokevirtual 69, 3) := by decide +kernel
theorem d_la_law_643 : decode b_la_law 643 = .ok (.aload_n 2, 1) := by decide +kernel
theorem d_la_law_644 : decode b_la_law 644 = .ok (.aload_n 0, 1) := by decide +kernel
theorem d_la_law_645 : decode b_la_law 645 = .ok (.iload 4, 2) := by decide +kernel
theorem d_la_law_647 : decode b_la_law 647 = .ok (.iconst 1, 1) := by decide +kernel
theorem d_la_law_648 : decode b_la_law 648 = .ok (.iadd, 1) := by decide +kernel
theorem d_la_law_649 : decode b_la_law 649 = .ok (.iaload, 1) := by decide +kernel
theorem d_la_law_650 : decode b_la_law 650 = .ok (.aload_n 0, 1) := by decide +kernel
theorem d_la_law_651 : decode b_la_law 651 = .ok (.iload 4, 2) := by decide +kernel
theorem d_la_law_653 : decode b_la_law 653 = .ok (.iconst 2, 1) := by decide +kernel
theorem d_la_law_654 : decode b_la_law 654 = .ok (.iadd, 1) := by decide +kernel
theorem d_la_law_655 : decode b_la_law 655 = .ok (.iaload, 1) := by decide +kernel
theorem d_la_law_656 : decode b_la_law 656 = .ok (.invokevirtual 72, 3) := by decide +kernel
theorem d_la_law_659 : decode b_la_law 659 = .ok (.if_icmp .eq 307, 3) := by decide +kernel
theorem d_la_law_662 : decode b_la_law 662 = .ok (.iconst 0, 1) := by decide +kernel
theorem d_la_law_663 : decode b_la_law 663 = .ok (.ireturn, 1) := by decide +kernel
theorem d_la_law_664 : decode b_la_law 664 = .ok (.aload_n 1, 1) := by decide +kernel
theorem d_la_law_665 : decode b_la_law 665 = .ok (.aload_n 0, 1) := by decide +kernel
theorem d_la_law_666 : decode b_la_law 666 = .ok (.iload 4, 2) := by decide +kernel
theorem d_la_law_668 : decode b_la_law 668 = .ok (.iconst 1, 1) := by decide +kernel
theorem d_la_law_669 : decode b_la_law 669 = .ok (.iadd, 1) := by decide +kernel
theorem d_la_law_670 : decode b_la_law 670 = .ok (.iaload, 1) := by decide +kernel
theorem d_la_law_671 : decode b_la_law 671 = .ok (.aload_n 0, 1) := by decide +kernel
theorem d_la_law_672 : decode b_la_law 672 = .ok (.iload 4, 2) := by decide +kernel
theorem d_la_law_674 : decode b_la_law 674 = .ok (.iconst 2, 1) := by decide +kernel
theorem d_la_law_675 : decode b_la_law 675 = .ok (.iadd, 1) := by decide +kernel
theorem d_la_law_676 : decode b_la_law 676 = .ok (.iaload, 1) := by decide +kernel
theorem d_la_law_677 : decode b_la_law 677 = .ok (.invokevirtual 73, 3) := by decide +kernel
theorem d_la_law_680 : decode b_la_law 680 = .ok (.aload_n 2, 1) := by decide +kernel
theorem d_la_law_681 : decode b_la_law 681 = .ok (.aload_n 0, 1) := by decide +kernel
theorem d_la_law_682 : decode b_la_law 682 = .ok (.iload 4, 2) := by decide +kernel
theorem d_la_law_684 : decode b_la_law 684 = .ok (.iconst 1, 1) := by decide +kernel
theorem d_la_law_685 : decode b_la_law 685 = .ok (.iadd, 1) := by decide +kernel
theorem d_la_law_686 : decode b_la_law 686 = .ok (.iaload, 1) := by decide +kernel
theorem d_la_law_687 : decode b_la_law 687 = .ok (.aload_n 0, 1) := by decide +kernel
theorem d_la_law_688 : decode b_la_law 688 = .ok (.iload 4, 2) := by decide +kernel
theorem d_la_law_690 : decode b_la_law 690 = .ok (.iconst 2, 1) := by decide +kernel
theorem d_la_law_691 : decode b_la_law 691 = .ok (.iadd, 1) := by decide +kernel
theorem d_la_law_692 : decode b_la_law 692 = .ok (.iaload, 1) := by decide +kernel
theorem d_la_law_693 : decode b_la_law 693 = .ok (.invokevirtual 76, 3) := by decide +kernel
theorem d_la_law_696 : decode b_la_law 696 = .ok (.if_icmp .eq 270, 3) := by decide +kernel
theorem d_la_law_699 : decode b_la_law 699 = .ok (.iconst 0, 1) := by decide +kernel
theorem d_la_law_700 : decode b_la_law 700 = .ok (.ireturn, 1) := by decide +kernel
theorem d_la_law_701 : decode b_la_law 701 = .ok (.aload_n 1, 1) := by decide +kernel
theorem d_la_law_702 : decode b_la_law 702 = .ok (.aload_n 0, 1) := by decide +kernel
theorem d_la_law_703 : decode b_la_law 703 = .ok (.iload 4, 2) := by decide +kernel
theorem d_la_law_705 : decode b_la_law 705 = .ok (.iconst 1, 1) := by decide +kernel
theorem d_la_law_706 : decode b_la_law 706 = .ok (.iadd, 1) := by decide +kernel
theorem d_la_law_707 : decode b_la_law 707 = .ok (.iaload, 1) := by decide +kernel
theorem d_la_law_708 : decode b_la_law 708 = .ok (.aload_n 0, 1) := by decide +kernel
theorem d_la_law_709 : decode b_la_law 709 = .ok (.iload 4, 2) := by decide +kernel
theorem d_la_law_711 : decode b_la_law 711 = .ok (.iconst 2, 1) := by decide +kernel
theorem d_la_law_712 : decode b_la_law 712 = .ok (.iadd, 1) := by decide +kernel
theorem d_la_law_713 : decode b_la_law 713 = .ok (.iaload, 1) := by decide +kernel
theorem d_la_law_714 : decode b_la_law 714 = .ok (.aload_n 0, 1) := by decide +kernel
theorem d_la_law_715 : decode b_la_law 715 = .ok (.iload 4, 2) := by decide +kernel
theorem d_la_law_717 : decode b_la_law 717 = .ok (.iconst 3, 1) := by decide +kernel
theorem d_la_law_718 : decode b_la_law 718 = .ok (.iadd, 1) := by decide +kernel
theorem d_la_law_719 : decode b_la_law 719 = .ok (.iaload, 1) := by decide +kernel
theorem d_la_law_720 : decode b_la_law 720 = .ok (.invokevirtual 77, 3) := by decide +kernel
theorem d_la_law_723 : decode b_la_law 723 = .ok (.aload_n 2, 1) := by decide +kernel
theorem d_la_law_724 : decode b_la_law 724 = .ok (.aload_n 0, 1) := by decide +kernel
theorem d_la_law_725 : decode b_la_law 725 = .ok (.iload 4, 2) := by decide +kernel
theorem d_la_law_727 : decode b_la_law 727 = .ok (.iconst 1, 1) := by decide +kernel
theorem d_la_law_728 : decode b_la_law 728 = .ok (.iadd, 1) := by decide +kernel
theorem d_la_law_729 : decode b_la_law 729 = .ok (.iaload, 1) := by decide +kernel
theorem d_la_law_730 : decode b_la_law 730 = .ok (.aload_n 0, 1) := by decide +kernel
theorem d_la_law_731 : decode b_la_law 731 = .ok (.iload 4, 2) := by decide +kernel
theorem d_la_law_733 : decode b_la_law 733 = .ok (.iconst 2, 1) := by decide +kernel
theorem d_la_law_734 : decode b_la_law 734 = .ok (.iadd, 1) := by decide +kernel
theorem d_la_law_735 : decode b_la_law 735 = .ok (.iaload, 1) := by decide +kernel
theorem d_la_law_736 : decode b_la_law 736 = .ok (.aload_n 0, 1) := by decide +kernel
theorem d_la_law_737 : decode b_la_law 737 = .ok (.iload 4, 2) := by decide +kernel
theorem d_la_law_739 : decode b_la_law 739 = .ok (.iconst 3, 1) := by decide +kernel
theorem d_la_law_740 : decode b_la_law 740 = .ok (.iadd, 1) := by decide +kernel
theorem d_la_law_741 : decode b_la_law 741 = .ok (.iaload, 1) := by decide +kernel
theorem d_la_law_742 : decode b_la_law 742 = .ok (.invokevirtual 80, 3) := by decide +kernel
theorem d_la_law_745 : decode b_la_law 745 = .ok (.if_icmp .eq 221, 3) := by decide +kernel
theorem d_la_law_748 : decode b_la_law 748 = .ok (.iconst 0, 1) := by decide +kernel
theorem d_la_law_749 : decode b_la_law 749 = .ok (.ireturn, 1) := by decide +kernel
theorem d_la_law_750 : decode b_la_law 750 = .ok (.aload_n 1, 1) := by decide +kernel
theorem d_la_law_751 : decode b_la_law 751 = .ok (.aload_n 0, 1) := by decide +kernel
theorem d_la_law_752 : decode b_la_law 752 = .ok (.iload 4, 2) := by decide +kernel
theorem d_la_law_754 : decode b_la_law 754 = .ok (.iconst 1, 1) := by decide +kernel
theorem d_la_law_755 : decode b_la_law 755 = .ok (.iadd, 1) := by decide +kernel
theorem d_la_law_756 : decode b_la_law 756 = .ok (.iaload, 1) := by decide +kernel
theorem d_la_law_757 : decode b_la_law 757 = .ok (.invokevirtual 81, 3) := by decide +kernel
theorem d_la_law_760 : decode b_la_law 760 = .ok (.aload_n 2, 1) := by decide +kernel
theorem d_la_law_761 : decode b_la_law 761 = .ok (.aload_n 0, 1) := by decide +kernel
theorem d_la_law_762 : decode b_la_law 762 = .ok (.iload 4, 2) := by decide +kernel
theorem d_la_law_764 : decode b_la_law 764 = .ok (.iconst 1, 1) := by decide +kernel
theorem d_la_law_765 : decode b_la_law 765 = .ok (.iadd, 1) := by decide +kernel
theorem d_la_law_766 : decode b_la_law 766 = .ok (.iaload, 1) := by decide +kernel
theorem d_la_law_767 : decode b_la_law 767 = .ok (.invokevirtual 84, 3) := by decide +kernel
theorem d_la_law_770 : decode b_la_law 770 = .ok (.if_icmp .eq 196, 3) := by decide +kernel
theorem d_la_law_773 : decode b_la_law 773 = .ok (.iconst 0, 1) := by decide +kernel
theorem d_la_law_774 : decode b_la_law 774 = .ok (.ireturn, 1) := by decide +kernel
theorem d_la_law_775 : decode b_la_law 775 = .ok (.aload_n 1, 1) := by decide +kernel
theorem d_la_law_776 : decode b_la_law 776 = .ok (.aload_n 0, 1) := by decide +kernel
theorem d_la_law_777 : decode b_la_law 777 = .ok (.iload 4, 2) := by decide +kernel
theorem d_la_law_779 : decode b_la_law 779 = .ok (.iconst 1, 1) := by decide +kernel
theorem d_la_law_780 : decode b_la_law 780 = .ok (.iadd, 1) := by decide +kernel
theorem d_la_law_781 : decode b_la_law 781 = .ok (.iaload, 1) := by decide +kernel
theorem d_la_law_782 : decode b_la_law 782 = .ok (.aload_n 0, 1) := by decide +kernel
theorem d_la_law_783 : decode b_la_law 783 = .ok (.iload 4, 2) := by decide +kernel
theorem d_la_law_785 : decode b_la_law 785 = .ok (.iconst 2, 1) := by decide +kernel
theorem d_la_law_786 : decode b_la_law 786 = .ok (.iadd, 1) := by decide +kernel
theorem d_la_law_787 : decode b_la_law 787 = .ok (.iaload, 1) := by decide +kernel
theorem d_la_law_788 : decode b_la_law 788 = .ok (.invokevirtual 85, 3) := by decide +kernel
theorem d_la_law_791 : decode b_la_law 791 = .ok (.aload_n 2, 1) := by decide +kernel
theorem d_la_law_792 : decode b_la_law 792 = .ok (.aload_n 0, 1) := by decide +kernel
theorem d_la_law_793 : decode b_la_law 793 = .ok (.iload 4, 2) := by decide +kernel
theorem d_la_law_795 : decode b_la_law 795 = .ok (.iconst 1, 1) := by decide +kernel
theorem d_la_law_796 : decode b_la_law 796 = .ok (.iadd, 1) := by decide +kernel
theorem d_la_law_797 : decode b_la_law 797 = .ok (.iaload, 1) := by decide +kernel
theorem d_la_law_798 : decode b_la_law 798 = .ok (.aload_n 0, 1) := by decide +kernel
theorem d_la_law_799 : decode b_la_law 799 = .ok (.iload 4, 2) := by decide +kernel
theorem d_la_law_801 : decode b_la_law 801 = .ok (.iconst 2, 1) := by decide +kernel
theorem d_la_law_802 : decode b_la_law 802 = .ok (.iadd, 1) := by decide +kernel
theorem d_la_law_803 : decode b_la_law 803 = .ok (.iaload, 1) := by decide +kernel
theorem d_la_law_804 : decode b_la_law 804 = .ok (.invokevirtual 88, 3) := by decide +kernel
theorem d_la_law_807 : decode b_la_law 807 = .ok (.if_icmp .eq 159, 3) := by decide +kernel
theorem d_la_law_810 : decode b_la_law 810 = .ok (.iconst 0, 1) := by decide +kernel
theorem d_la_law_811 : decode b_la_law 811 = .ok (.ireturn, 1) := by decide +kernel
theorem d_la_law_812 : decode b_la_law 812 = .ok (.aload_n 1, 1) := by decide +kernel
theorem d_la_law_813 : decode b_la_law 813 = .ok (.aload_n 0, 1) := by decide +kernel
theorem d_la_law_814 : decode b_la_law 814 = .ok (.iload 4, 2) := by decide +kernel
theorem d_la_law_816 : decode b_la_law 816 = .ok (.iconst 1, 1) := by decide +kernel
theorem d_la_law_817 : decode b_la_law 817 = .ok (.iadd, 1) := by decide +kernel
theorem d_la_law_818 : decode b_la_law 818 = .ok (.iaload, 1) := by decide +kernel
theorem d_la_law_819 : decode b_la_law 819 = .ok (.aload_n 0, 1) := by decide +kernel
theorem d_la_law_820 : decode b_la_law 820 = .ok (.iload 4, 2) := by decide +kernel
theorem d_la_law_822 : decode b_la_law 822 = .ok (.iconst 2, 1) := by decide +kernel
theorem d_la_law_823 : decode b_la_law 823 = .ok (.iadd, 1) := by decide +kernel
theorem d_la_law_824 : decode b_la_law 824 = .ok (.iaload, 1) := by decide +kernel
theorem d_la_law_825 : decode b_la_law 825 = .ok (.invokevirtual 89, 3) := by decide +kernel
theorem d_la_law_828 : decode b_la_law 828 = .ok (.aload_n 2, 1) := by decide +kernel
theorem d_la_law_829 : decode b_la_law 829 = .ok (.aload_n 0, 1) := by decide +kernel
theorem d_la_law_830 : decode b_la_law 830 = .ok (.iload 4, 2) := by decide +kernel
theorem d_la_law_832 : decode b_la_law 832 = .ok (.iconst 1, 1) := by decide +kernel
theorem d_la_law_833 : decode b_la_law 833 = .ok (.iadd, 1) := by decide +kernel
theorem d_la_law_834 : decode b_la_law 834 = .ok (.iaload, 1) := by decide +kernel
theorem d_la_law_835 : decode b_la_law 835 = .ok (.aload_n 0, 1) := by decide +kernel
theorem d_la_law_836 : decode b_la_law 836 = .ok (.iload 4, 2) := by decide +kernel
theorem d_la_law_838 : decode b_la_law 838 = .ok (.iconst 2, 1) := by decide +kernel
theorem d_la_law_839 : decode b_la_law 839 = .ok (.iadd, 1) := by decide +kernel
theorem d_la_law_840 : decode b_la_law 840 = .ok (.iaload, 1) := by decide +kernel
theorem d_la_law_841 : decode b_la_law 841 = .ok (.invokevirtual 92, 3) := by decide +kernel
theorem d_la_law_844 : decode b_la_law 844 = .ok (.if_icmp .eq 122, 3) := by decide +kernel
theorem d_la_law_847 : decode b_la_law 847 = .ok (.iconst 0, 1) := by decide +kernel
theorem d_la_law_848 : decode b_la_law 848 = .ok (.ireturn, 1) := by decide +kernel
theorem d_la_law_849 : decode b_la_law 849 = .ok (.aload_n 1, 1) := by decide +kernel
theorem d_la_law_850 : decode b_la_law 850 = .ok (.aload_n 0, 1) := by decide +kernel
theorem d_la_law_851 : decode b_la_law 851 = .ok (.iload 4, 2) := by decide +kernel
theorem d_la_law_853 : decode b_la_law 853 = .ok (.iconst 1, 1) := by decide +kernel
theorem d_la_law_854 : decode b_la_law 854 = .ok (.iadd, 1) := by decide +kernel
theorem d_la_law_855 : decode b_la_law 855 = .ok (.iaload, 1) := by decide +kernel
theorem d_la_law_856 : decode b_la_law 856 = .ok (.aload_n 0, 1) := by decide +kernel
theorem d_la_law_857 : decode b_la_law 857 = .ok (.iload 4, 2) := by decide +kernel
theorem d_la_law_859 : decode b_la_law 859 = .ok (.iconst 2, 1) := by decide +kernel
theorem d_la_law_860 : decode b_la_law 860 = .ok (.iadd, 1) := by decide +kernel
theorem d_la_law_861 : decode b_la_law 861 = .ok (.iaload, 1) := by decide +kernel
theorem d_la_law_862 : decode b_la_law 862 = .ok (.aload_n 0, 1) := by decide +kernel
theorem d_la_law_863 : decode b_la_law 863 = .ok (.iload 4, 2) := by decide +kernel
theorem d_la_law_865 : decode b_la_law 865 = .ok (.iconst 3, 1) := by decide +kernel
theorem d_la_law_866 : decode b_la_law 866 = .ok (.iadd, 1) := by decide +kernel
theorem d_la_law_867 : decode b_la_law 867 = .ok (.iaload, 1) := by decide +kernel
theorem d_la_law_868 : decode b_la_law 868 = .ok (.aload_n 3, 1) := by decide +kernel
theorem d_la_law_869 : decode b_la_law 869 = .ok (.invokestatic 93, 3) := by decide +kernel
theorem d_la_law_872 : decode b_la_law 872 = .ok (.istore 5, 2) := by decide +kernel
theorem d_la_law_874 : decode b_la_law 874 = .ok (.aload_n 2, 1) := by decide +kernel
theorem d_la_law_875 : decode b_la_law 875 = .ok (.aload_n 0, 1) := by decide +kernel
theorem d_la_law_876 : decode b_la_law 876 = .ok (.iload 4, 2) := by decide +kernel
theorem d_la_law_878 : decode b_la_law 878 = .ok (.iconst 1, 1) := by decide +kernel
theorem d_la_law_879 : decode b_la_law 879 = .ok (.iadd, 1) := by decide +kernel
theorem d_la_law_880 : decode b_la_law 880 = .ok (.iaload, 1) := by decide +kernel
theorem d_la_law_881 : decode b_la_law 881 = .ok (.aload_n 0, 1) := by decide +kernel
theorem d_la_law_882 : decode b_la_law 882 = .ok (.iload 4, 2) := by decide +kernel
theorem d_la_law_884 : decode b_la_law 884 = .ok (.iconst 2, 1) := by decide +kernel
theorem d_la_law_885 : decode b_la_law 885 = .ok (.iadd, 1) := by decide +kernel
theorem d_la_law_886 : decode b_la_law 886 = .ok (.iaload, 1) := by decide +kernel
theorem d_la_law_887 : decode b_la_law 887 = .ok (.aload_n 0, 1) := by decide +kernel
theorem d_la_law_888 : decode b_la_law 888 = .ok (.iload 4, 2) := by decide +kernel
theorem d_la_law_890 : decode b_la_law 890 = .ok (.iconst 3, 1) := by decide +kernel
theorem d_la_law_891 : decode b_la_law 891 = .ok (.iadd, 1) := by decide +kernel
theorem d_la_law_892 : decode b_la_law 892 = .ok (.iaload, 1) := by decide +kernel
theorem d_la_law_893 : decode b_la_law 893 = .ok (.invokevirtual 98, 3) := by decide +kernel
theorem d_la_law_896 : decode b_la_law 896 = .ok (.istore 6, 2) := by decide +kernel
theorem d_la_law_898 : decode b_la_law 898 = .ok (.aload_n 2, 1) := by decide +kernel
theorem d_la_law_899 : decode b_la_law 899 = .ok (.invokevirtual 99, 3) := by decide +kernel
theorem d_la_law_902 : decode b_la_law 902 = .ok (.iload 5, 2) := by decide +kernel
theorem d_la_law_904 : decode b_la_law 904 = .ok (.if_icmp .eq 5, 3) := by decide +kernel
theorem d_la_law_907 : decode b_la_law 907 = .ok (.iconst 0, 1) := by decide +kernel
theorem d_la_law_908 : decode b_la_law 908 = .ok (.ireturn, 1) := by decide +kernel
theorem d_la_law_909 : decode b_la_law 909 = .ok (.iload 5, 2) := by decide +kernel
theorem d_la_law_911 : decode b_la_law 911 = .ok (.ifCond .ne 15, 3) := by decide +kernel
theorem d_la_law_914 : decode b_la_law 914 = .ok (.aload_n 3, 1) := by decide +kernel
theorem d_la_law_915 : decode b_la_law 915 = .ok (.iconst 0, 1) := by decide +kernel
theorem d_la_law_916 : decode b_la_law 916 = .ok (.laload, 1) := by decide +kernel
theorem d_la_law_917 : decode b_la_law 917 = .ok (.iload 6, 2) := by decide +kernel
theorem d_la_law_919 : decode b_la_law 919 = .ok (.i2l, 1) := by decide +kernel
theorem d_la_law_920 : decode b_la_law 920 = .ok (.lcmp, 1) := by decide +kernel
theorem d_la_law_921 : decode b_la_law 921 = .ok (.ifCond .eq 5, 3) := by decide +kernel
theorem d_la_law_924 : decode b_la_law 924 = .ok (.iconst 0, 1) := by decide +kernel
theorem d_la_law_925 : decode b_la_law 925 = .ok (.ireturn, 1) := by decide +kernel
theorem d_la_law_926 : decode b_la_law 926 = .ok (.goto 40, 3) := by decide +kernel
theorem d_la_law_929 : decode b_la_law 929 = .ok (.aload_n 1, 1) := by decide +kernel
theorem d_la_law_930 : decode b_la_law 930 = .ok (.aload_n 0, 1) := by decide +kernel
theorem d_la_law_931 : decode b_la_law 931 = .ok (.iload 4, 2) := by decide +kernel
theorem d_la_law_933 : decode b_la_law 933 = .ok (.iconst 1, 1) := by decide +kernel
theorem d_la_law_934 : decode b_la_law 934 = .ok (.iadd, 1) := by decide +kernel
theorem d_la_law_935 : decode b_la_law 935 = .ok (.iaload, 1) := by decide +kernel
theorem d_la_law_936 : decode b_la_law 936 = .ok (.aload_n 0, 1) := by decide +kernel
theorem d_la_law_937 : decode b_la_law 937 = .ok (.iload 4, 2) := by decide +kernel
theorem d_la_law_939 : decode b_la_law 939 = .ok (.iconst 2, 1) := by decide +kernel
theorem d_la_law_940 : decode b_la_law 940 = .ok (.iadd, 1) := by decide +kernel
theorem d_la_law_941 : decode b_la_law 941 = .ok (.iaload, 1) := by decide +kernel
theorem d_la_law_942 : decode b_la_law 942 = .ok (.invokevirtual 102, 3) := by decide +kernel
theorem d_la_law_945 : decode b_la_law 945 = .ok (.aload_n 2, 1) := by decide +kernel
theorem d_la_law_946 : decode b_la_law 946 = .ok (.aload_n 0, 1) := by decide +kernel
theorem d_la_law_947 : decode b_la_law 947 = .ok (.iload 4, 2) := by decide +kernel
theorem d_la_law_949 : decode b_la_law 949 = .ok (.iconst 1, 1) := by decide +kernel
theorem d_la_law_950 : decode b_la_law 950 = .ok (.iadd, 1) := by decide +kernel
theorem d_la_law_951 : decode b_la_law 951 = .ok (.iaload, 1) := by decide +kernel
theorem d_la_law_952 : decode b_la_law 952 = .ok (.aload_n 0, 1) := by decide +kernel
theorem d_la_law_953 : decode b_la_law 953 = .ok (.iload 4, 2) := by decide +kernel
theorem d_la_law_955 : decode b_la_law 955 = .ok (.iconst 2, 1) := by decide +kernel
theorem d_la_law_956 : decode b_la_law 956 = .ok (.iadd, 1) := by decide +kernel
theorem d_la_law_957 : decode b_la_law 957 = .ok (.iaload, 1) := by decide +kernel
theorem d_la_law_958 : decode b_la_law 958 = .ok (.invokevirtual 105, 3) := by decide +kernel
theorem d_la_law_961 : decode b_la_law 961 = .ok (.if_icmp .eq 5, 3) := by decide +kernel
theorem d_la_law_964 : decode b_la_law 964 = .ok (.iconst 0, 1) := by decide +kernel
theorem d_la_law_965 : decode b_la_law 965 = .ok (.ireturn, 1) := by decide +kernel
theorem d_la_law_966 : decode b_la_law 966 = .ok (.iinc 4 6, 3) := by decide +kernel
theorem d_la_law_969 : decode b_la_law 969 = .ok (.goto (-946), 3) := by decide +kernel
theorem d_la_law_972 : decode b_la_law 972 = .ok (.iconst 1, 1) := by decide +kernel
theorem d_la_law_973 : decode b_la_law 973 = .ok (.ireturn, 1) := by decide +kernel
theorem d_la_statistics_0 : decode b_la_statistics 0 = .ok (.aload 4, 2) := by decide +kernel
theorem d_la_statistics_2 : decode b_la_statistics 2 = .ok (.iconst 0, 1) := by decide +kernel
theorem d_la_statistics_3 : decode b_la_statistics 3 = .ok (.aload_n 0, 1) := by decide +kernel
theorem d_la_statistics_4 : decode b_la_statistics 4 = .ok (.iload_n 1, 1) := by decide +kernel
theorem d_la_statistics_5 : decode b_la_statistics 5 = .ok (.iload_n 2, 1) := by decide +kernel
theorem d_la_statistics_6 : decode b_la_statistics 6 = .ok (.iload_n 3, 1) := by decide +kernel
theorem d_la_statistics_7 : decode b_la_statistics 7 = .ok (.invokevirtual 7, 3) := by decide +kernel
theorem d_la_statistics_10 : decode b_la_statistics 10 = .ok (.i2l, 1) := by decide +kernel
theorem d_la_statistics_11 : decode b_la_statistics 11 = .ok (.lastore, 1) := by decide +kernel
theorem d_la_statistics_12 : decode b_la_statistics 12 = .ok (.goto 7, 3) := by decide +kernel
theorem d_la_statistics_15 : decode b_la_statistics 15 = .ok (.astore 5, 2) := by decide +kernel
theorem d_la_statistics_17 : decode b_la_statistics 17 = .ok (.iconst 1, 1) := by decide +kernel
theorem d_la_statistics_18 : decode b_la_statistics 18 = .ok (.ireturn, 1) := by decide +kernel
theorem d_la_statistics_19 : decode b_la_statistics 19 = .ok (.iconst 0, 1) := by decide +kernel
theorem d_la_statistics_20 : decode b_la_statistics 20 = .ok (.ireturn, 1) := by decide +kernel
end
section
/-- the locals list with one place written -/
def jc_put : List (Nat × Value) → Nat → Value → List (Nat × Value)
  | [], i, v => [(i, v)]
  | (j, w) :: t, i, v => bif Nat.beq j i then (i, v) :: t.filter (fun q => !(Nat.beq q.1 i)) else (j, w) :: jc_put t i v
theorem jc_put_mem : ∀ (lv : List (Nat × Value)) (i : Nat) (v : Value) (q : Nat × Value), q ∈ jc_put lv i v → q = (i, v) ∨ (q ∈ lv ∧ q.1 ≠ i)
  | [], i, v, q, h => by
    simp only [jc_put, List.mem_singleton] at h
    exact Or.inl h
  | (j, w) :: t, i, v, q, h => by
    simp only [jc_put] at h
    cases hb : Nat.beq j i with
    | true =>
      rw [hb] at h
      simp only [cond_true, List.mem_cons, List.mem_filter] at h
      rcases h with h | ⟨h1, h2⟩
      · exact Or.inl h
      · refine Or.inr ⟨List.mem_cons_of_mem _ h1, fun e => ?_⟩
        rw [e, Nat.beq_refl] at h2
        exact absurd h2 (by decide)
    | false =>
      rw [hb] at h
      simp only [cond_false, List.mem_cons] at h
      rcases h with h | h
      · refine Or.inr ⟨by rw [h]; exact List.mem_cons_self, fun e => ?_⟩
        rw [h] at e
        simp only at e
        rw [e, Nat.beq_refl] at hb
        exact absurd hb (by decide)
      · rcases jc_put_mem t i v q h with h | ⟨h1, h2⟩
        · exact Or.inl h
        · exact Or.inr ⟨List.mem_cons_of_mem _ h1, h2⟩
theorem jc_put_has {ls : Array Slot} {nL i : Nat} {lv : List (Nat × Value)} {v : Value} (hc : lv.all (fun q => Nat.beq q.2.category 1) = true)
    (h : lv_has ls nL ((i, v) :: lv.filter (fun q => !(q.1 == i) && !(q.1 + 1 == i && q.2.category == 2)))) : lv_has ls nL (jc_put lv i v) := by
  refine ⟨h.1, h.2.1, fun q hq => ?_⟩
  rcases jc_put_mem lv i v q hq with e | ⟨h1, h2⟩
  · exact h.2.2 q (by rw [e]; exact List.mem_cons_self)
  · refine h.2.2 q (List.mem_cons_of_mem _ (List.mem_filter.mpr ⟨h1, ?_⟩))
    have h3 := Nat.eq_of_beq_eq_true (List.all_eq_true.mp hc q h1)
    simp [h2, h3]
/-- words on nest mates: they hold behind every step, but only by their own rule -/
def jc_nw (w : Cond) : Prop := (∃ (a : String) (i : Nat) (x : MethodName) (h : String), w = .methodLinkNest a i x h) ∨ ∃ (a : String) (i : Nat) (b n d h : String), w = .fieldLinkNest a i b n d h
def jc_N (nst : List Cond) (U : State) : Prop := ∀ w ∈ nst, jc_nw w ∧ va_Nw w U
theorem jc_N_warm {nst : List Cond} {s U : State} (hW : s.WarmedH U.vm) (h : jc_N nst s) : jc_N nst U := fun w hw => by
  obtain ⟨h1, h2⟩ := h w hw
  refine ⟨h1, ?_⟩
  rcases h1 with ⟨a, i, x, ho, rfl⟩ | ⟨a, i, b, n, d, ho, rfl⟩
  · exact h2.warmM hW
  · exact h2.warmF hW
theorem jc_N_same {nst : List Cond} {s U : State} (hW : s.vm = U.vm) (h : jc_N nst s) : jc_N nst U := fun w hw => by
  obtain ⟨h1, h2⟩ := h w hw
  refine ⟨h1, ?_⟩
  rcases h1 with ⟨a, i, x, ho, rfl⟩ | ⟨a, i, b, n, d, ho, rfl⟩
  · exact h2.same rfl hW
  · exact h2.same rfl hW
/-- the fixed things of a walk -/
def jc_X (p : Program) (s : State) (m : MethodId) (args : Array Value) (c : Code) (cc : ByteArray) (nL : Nat) (Ts : List Cond) (own : String) (D : va_G) (cl : List vw_C) (tys : List (ClassId × FieldType)) (nst : List Cond) (A : Nat → Prop) : Prop :=
  (p.tables.exec = Jvm.exec ∧ c.code = cc ∧ c.maxLocals = nL ∧ s.vm.findClass own = some m.cls ∧ ∀ w ∈ Ts, w.before args s = true) ∧ va_K D cl tys s ∧ (∀ q, s.heap.size ≤ q → A q) ∧ jc_N nst s
/-- from every heap that holds the world ws, with the locals lv and the stack st, at pc: it comes to Q -/
def jc_J (p : Program) (l : Launch) (e : Env) (R : Room) (s : State) (m : MethodId) (args : Array Value) (below : List Frame) (meth : Method) (c : Code) (Q : State → Prop) (D : va_G) (cl : List vw_C) (A : Nat → Prop) (nL k n pc : Nat) (lv : List (Nat × Value)) (st : List Value) (ws : va_W) : Prop :=
  ∀ (H : Heap) (locs : List Loc) (ls : Array Slot), va_P D cl ws H → va_D A ws → va_S A s.heap H locs → lv_has ls nL lv → W p l e R s m args below meth c H locs k n Q (F0 m pc ls st)
/-- the world behind a method -/
def jc_B (D : va_G) (cl : List vw_C) (tys : List (ClassId × FieldType)) (A : Nat → Prop) (u : va_W) (t : State) : Prop := va_P D cl u t.heap ∧ va_K D cl tys t ∧ va_D A u
/-- the world ahead of a method -/
def jc_P (D : va_G) (cl : List vw_C) (tys : List (ClassId × FieldType)) (nst : List Cond) (sz : Nat) (w : va_W) (U : State) : Prop := U.heap.size = sz ∧ va_P D cl w U.heap ∧ va_K D cl tys U ∧ va_D (fun _ => True) w ∧ jc_N nst U
/-- contracts over a whole world: an int (or boolean) answer; none -/
def mt_I (l : Launch) (D : va_G) (cl : List vw_C) (tys : List (ClassId × FieldType)) (nst : List Cond) (y : MethodName) (ws : List Cond) (rm : Room) (av : List Value) (w : va_W) (post : Int32 → va_W → Prop) : Prop :=
  ∀ sz : Nat, Met l y ws rm (va_Pc av (jc_P D cl tys nst sz w)) (va_Qi post (jc_B D cl tys (va_A w sz)) (va_A w sz)) rm.cells rm.slots (va_A w sz)
def mt_V (l : Launch) (D : va_G) (cl : List vw_C) (tys : List (ClassId × FieldType)) (nst : List Cond) (y : MethodName) (ws : List Cond) (rm : Room) (av : List Value) (w : va_W) (post : va_W → Prop) : Prop :=
  ∀ sz : Nat, Met l y ws rm (va_Pc av (jc_P D cl tys nst sz w)) (va_Qv post (jc_B D cl tys (va_A w sz)) (va_A w sz)) rm.cells rm.slots (va_A w sz)
section JW
variable {p : Program} {l : Launch} {e : Env} {R : Room} {s : State} {m : MethodId} {args : Array Value} {below : List Frame} {meth : Method} {c : Code} {Q : State → Prop} {cc : ByteArray} {nL : Nat} {Ts : List Cond} {own : String} {D : va_G} {cl : List vw_C} {tys : List (ClassId × FieldType)} {nst : List Cond} {A : Nat → Prop} {k n pc : Nat} {lv : List (Nat × Value)} {st : List Value} {ws : va_W}
theorem jc_P_blind {sz : Nat} {w : va_W} {av : List Value} : FrameBlind (va_Pc av (jc_P D cl tys nst sz w)) := fun a U g mk q => by
  obtain ⟨q0, q1, qP, qK, qD, qN⟩ := q
  exact ⟨q0, q1, qP, va_K.moved (u := U) (U := U.calling g mk a) (Vm.Alike.refl U.vm) qK, qD, jc_N_same (s := U) (U := U.calling g mk a) rfl qN⟩
theorem mt_I_of {y : MethodName} {maxL : Nat} {ty : FieldType} {rm : Room} {av : List Value} {w : va_W} {post : Int32 → va_W → Prop} (hy : plainName y.cls = true) (hlen : (lg_sl av).length ≤ maxL)
    (body : ∀ (p : Program) (e : Env) (s : State) (m : MethodId) (below : List Frame) (meth : Method) (c : Code) (A : Nat → Prop), jc_X p s m av.toArray c cc maxL Ts y.cls D cl tys nst A → meth.sig.returnType = some ty → meth.locks = false →
      jc_J p l e (headSpec (Cond.code y cc maxL (some ty) :: Ts) rm).room s m av.toArray below meth c (MQ below (va_Qi post (jc_B D cl tys A) A) av.toArray s rm.cells rm.slots A) D cl A maxL 0 0 0 (lv_args 0 av) [] w) : mt_I l D cl tys nst y (Cond.code y cc maxL (some ty) :: Ts) rm av w post := by
  intro sz
  refine Met.ofW (cc := cc) (maxL := maxL) (ret := some ty) hy rfl ?_
  intro p e s m args below meth c s₁ B hml hv
  obtain ⟨rfl, hsz, hP, hK, hD0, hN0⟩ := hv
  have hts := atoms_spec (ws := Cond.code y cc maxL (some ty) :: Ts) B.pre
  have hown : s.vm.findClass y.cls = some m.cls := findClass_of_methodNamed B.named
  subst hsz
  have hD := hD0.self (sz := s.heap.size)
  have hl := lv_entry av (n := maxL) hlen
  rw [lg_entry_eq]
  exact body p e s m below meth c (va_A w s.heap.size) ⟨⟨B.exec, B.bytes, hml, hown, fun w h => hts w (List.mem_cons_of_mem _ h)⟩, hK, fun q h => Or.inr h, hN0⟩ B.returns B.notSynchronized s.heap [] _ hP hD va_S.rf hl
theorem mt_V_of {y : MethodName} {maxL : Nat} {rm : Room} {av : List Value} {w : va_W} {post : va_W → Prop} (hy : plainName y.cls = true) (hlen : (lg_sl av).length ≤ maxL)
    (body : ∀ (p : Program) (e : Env) (s : State) (m : MethodId) (below : List Frame) (meth : Method) (c : Code) (A : Nat → Prop), jc_X p s m av.toArray c cc maxL Ts y.cls D cl tys nst A → meth.sig.returnType = none → meth.locks = false → meth.name = y.name →
      jc_J p l e (headSpec (Cond.code y cc maxL none :: Ts) rm).room s m av.toArray below meth c (MQ below (va_Qv post (jc_B D cl tys A) A) av.toArray s rm.cells rm.slots A) D cl A maxL 0 0 0 (lv_args 0 av) [] w) : mt_V l D cl tys nst y (Cond.code y cc maxL none :: Ts) rm av w post := by
  intro sz
  refine Met.ofW (cc := cc) (maxL := maxL) (ret := none) hy rfl ?_
  intro p e s m args below meth c s₁ B hml hv
  obtain ⟨rfl, hsz, hP, hK, hD0, hN0⟩ := hv
  have hts := atoms_spec (ws := Cond.code y cc maxL none :: Ts) B.pre
  have hown : s.vm.findClass y.cls = some m.cls := findClass_of_methodNamed B.named
  subst hsz
  have hD := hD0.self (sz := s.heap.size)
  have hl := lv_entry av (n := maxL) hlen
  rw [lg_entry_eq]
  exact body p e s m below meth c (va_A w s.heap.size) ⟨⟨B.exec, B.bytes, hml, hown, fun w h => hts w (List.mem_cons_of_mem _ h)⟩, hK, fun q h => Or.inr h, hN0⟩ B.returns B.notSynchronized (name_of_methodNamed B.named B.method).1 s.heap [] _ hP hD va_S.rf hl
theorem jj_iret {post : Int32 → va_W → Prop} (X : jc_X p s m args c cc nL Ts own D cl tys nst A) (hr : meth.sig.returnType = some .int) (hlk : meth.locks = false) {v : Int32} (d : decode cc pc = .ok (.ireturn, 1)) (hpost : post v ws) :
    jc_J p l e R s m args below meth c (MQ below (va_Qi post (jc_B D cl tys A) A) args s k n A) D cl A nL k n pc lv [.int v] ws :=
  fun H locs ls hP hD hS hl => W.iret X.1.1 X.1.2.1 hr (fun t ht hW => ⟨⟨v, ws, rfl, hpost, by rw [ht]; exact hP, va_K.moved hW.alike X.2.1, hD⟩, hS.F ht⟩) hS.2.2 d hlk
theorem jj_zret {post : Int32 → va_W → Prop} (X : jc_X p s m args c cc nL Ts own D cl tys nst A) (hr : meth.sig.returnType = some .boolean) (hlk : meth.locks = false) {v : Int32} (d : decode cc pc = .ok (.ireturn, 1)) (hn : narrow .boolean (.int v) = .int v) (hpost : post v ws) :
    jc_J p l e R s m args below meth c (MQ below (va_Qi post (jc_B D cl tys A) A) args s k n A) D cl A nL k n pc lv [.int v] ws :=
  fun H locs ls hP hD hS hl => W.zret X.1.1 X.1.2.1 hr hn (fun t ht hW => ⟨⟨v, ws, rfl, hpost, by rw [ht]; exact hP, va_K.moved hW.alike X.2.1, hD⟩, hS.F ht⟩) hS.2.2 d hlk
theorem jj_vret {post : va_W → Prop} (X : jc_X p s m args c cc nL Ts own D cl tys nst A) (hr : meth.sig.returnType = none) (hlk : meth.locks = false) (d : decode cc pc = .ok (.return_, 1)) (hpost : post ws) :
    jc_J p l e R s m args below meth c (MQ below (va_Qv post (jc_B D cl tys A) A) args s k n A) D cl A nL k n pc lv [] ws :=
  fun H locs ls hP hD hS hl => W.vret X.1.1 X.1.2.1 hr (fun t ht hW => ⟨⟨ws, rfl, hpost, by rw [ht]; exact hP, va_K.moved hW.alike X.2.1, hD⟩, hS.F ht⟩) hS.2.2 d hlk
theorem jj_widen {k' n' : Nat} (h1 : k ≤ k') (h2 : n ≤ n') (h : jc_J p l e R s m args below meth c Q D cl A nL k' n' pc lv st ws) : jc_J p l e R s m args below meth c Q D cl A nL k n pc lv st ws :=
  fun H locs ls hP hD hS hl => W.widen h1 h2 (h H locs ls hP hD hS hl)
/-- a loop: a measure that falls -/
theorem jj_loop {σ : Type} (I : σ → Prop) (μ : σ → Nat) (L : σ → List (Nat × Value)) (S : σ → List Value) (V : σ → va_W) (x0 : σ) (h0 : I x0) (eL : L x0 = lv) (eS : S x0 = st) (eV : V x0 = ws)
    (h : ∀ x, I x → (∀ y, I y → μ y < μ x → jc_J p l e R s m args below meth c Q D cl A nL k n pc (L y) (S y) (V y)) → jc_J p l e R s m args below meth c Q D cl A nL k n pc (L x) (S x) (V x)) : jc_J p l e R s m args below meth c Q D cl A nL k n pc lv st ws := by
  have key : ∀ (N : Nat) (x : σ), μ x < N → I x → jc_J p l e R s m args below meth c Q D cl A nL k n pc (L x) (S x) (V x) := by
    intro N
    induction N with
    | zero => intro x hx; exact absurd hx (Nat.not_lt_zero _)
    | succ N ih => intro x hx hI; exact h x hI (fun y hy hm => ih y (by omega) hy)
  subst eL; subst eS; subst eV
  exact key (μ x0 + 1) x0 (Nat.lt_succ_self _) h0
/-- a place where roads meet -/
theorem jj_cut {σ : Type} (I : σ → Prop) (pc' : Nat) (L : σ → List (Nat × Value)) (S : σ → List Value) (V : σ → va_W) (h : ∀ x, I x → jc_J p l e R s m args below meth c Q D cl A nL k n pc' (L x) (S x) (V x))
    (g : (∀ x, I x → jc_J p l e R s m args below meth c Q D cl A nL k n pc' (L x) (S x) (V x)) → jc_J p l e R s m args below meth c Q D cl A nL k n pc lv st ws) : jc_J p l e R s m args below meth c Q D cl A nL k n pc lv st ws := g h
/-- a computed number gets a name -/
theorem jj_top {x : Int32} (h : ∀ y : Int32, y = x → jc_J p l e R s m args below meth c Q D cl A nL k n pc lv (.int y :: st) ws) : jc_J p l e R s m args below meth c Q D cl A nL k n pc lv (.int x :: st) ws := h x rfl
theorem jj_topv {x y : Int32} (e0 : x = y) (h : jc_J p l e R s m args below meth c Q D cl A nL k n pc lv (.int y :: st) ws) : jc_J p l e R s m args below meth c Q D cl A nL k n pc lv (.int x :: st) ws := by rw [e0]; exact h
theorem jj_lvs {lv' : List (Nat × Value)} (hs : ∀ q ∈ lv', q ∈ lv) (h : jc_J p l e R s m args below meth c Q D cl A nL k n pc lv' st ws) : jc_J p l e R s m args below meth c Q D cl A nL k n pc lv st ws := fun H locs ls hP hD hS hl => h H locs ls hP hD hS ⟨hl.1, hl.2.1, fun q hq => hl.2.2 q (hs q hq)⟩
theorem jj_lve {lv' : List (Nat × Value)} (hs : lv = lv') (h : jc_J p l e R s m args below meth c Q D cl A nL k n pc lv' st ws) : jc_J p l e R s m args below meth c Q D cl A nL k n pc lv st ws := by rw [hs]; exact h
theorem jj_wse {ws' : va_W} (hs : ws = ws') (h : jc_J p l e R s m args below meth c Q D cl A nL k n pc lv st ws') : jc_J p l e R s m args below meth c Q D cl A nL k n pc lv st ws := by rw [hs]; exact h
theorem jj_iconst (X : jc_X p s m args c cc nL Ts own D cl tys nst A) {i : Int} {v : Int32} (d : decode cc pc = .ok (.iconst i, 1)) (pc' : Nat) (hp : pc + 1 = pc') (hv : Int32.ofInt i = v) (h : jc_J p l e R s m args below meth c Q D cl A nL k n pc' lv (.int v :: st) ws) : jc_J p l e R s m args below meth c Q D cl A nL k n pc lv st ws := by
  subst hp
  exact fun H locs ls hP hD hS hl => lv_iconst X.1.1 X.1.2.1 d hv (h H locs ls hP hD hS hl)
theorem jj_bipush (X : jc_X p s m args c cc nL Ts own D cl tys nst A) {i : Int} {v : Int32} (d : decode cc pc = .ok (.bipush i, 2)) (pc' : Nat) (hp : pc + 2 = pc') (hv : (Int8.ofInt i).toInt32 = v) (h : jc_J p l e R s m args below meth c Q D cl A nL k n pc' lv (.int v :: st) ws) : jc_J p l e R s m args below meth c Q D cl A nL k n pc lv st ws := by
  subst hp
  exact fun H locs ls hP hD hS hl => lv_bipush X.1.1 X.1.2.1 d hv (h H locs ls hP hD hS hl)
theorem jj_sipush (X : jc_X p s m args c cc nL Ts own D cl tys nst A) {i : Int} {v : Int32} (d : decode cc pc = .ok (.sipush i, 3)) (pc' : Nat) (hp : pc + 3 = pc') (hv : (Int16.ofInt i).toInt32 = v) (h : jc_J p l e R s m args below meth c Q D cl A nL k n pc' lv (.int v :: st) ws) : jc_J p l e R s m args below meth c Q D cl A nL k n pc lv st ws := by
  subst hp
  exact fun H locs ls hP hD hS hl => lv_sipush X.1.1 X.1.2.1 d hv (h H locs ls hP hD hS hl)
theorem jj_ldc (X : jc_X p s m args c cc nL Ts own D cl tys nst A) {i : Nat} {v : Int32} (d : decode cc pc = .ok (.ldc i, 2)) (pc' : Nat) (hp : pc + 2 = pc') (hc : Jvm.Cond.constant own i v ∈ Ts) (h : jc_J p l e R s m args below meth c Q D cl A nL k n pc' lv (.int v :: st) ws) : jc_J p l e R s m args below meth c Q D cl A nL k n pc lv st ws := by
  subst hp
  exact fun H locs ls hP hD hS hl => lv_ldc X.1.1 X.1.2.1 X.1.2.2.2.1 (X.1.2.2.2.2 _ hc) d (h H locs ls hP hD hS hl)
theorem jj_iload_n (X : jc_X p s m args c cc nL Ts own D cl tys nst A) {f : Fin 4} {x : Int32} (d : decode cc pc = .ok (.iload_n f, 1)) (pc' : Nat) (hp : pc + 1 = pc') (j : Nat) (hj : lv[j]? = some ((f : Nat), .int x)) (h : jc_J p l e R s m args below meth c Q D cl A nL k n pc' lv (.int x :: st) ws) : jc_J p l e R s m args below meth c Q D cl A nL k n pc lv st ws := by
  subst hp
  exact fun H locs ls hP hD hS hl => lv_iload_n X.1.1 X.1.2.1 d rfl (lv_at hl j hj) (h H locs ls hP hD hS hl)
theorem jj_iload (X : jc_X p s m args c cc nL Ts own D cl tys nst A) {i : Nat} {x : Int32} (d : decode cc pc = .ok (.iload i, 2)) (pc' : Nat) (hp : pc + 2 = pc') (j : Nat) (hj : lv[j]? = some (i, .int x)) (h : jc_J p l e R s m args below meth c Q D cl A nL k n pc' lv (.int x :: st) ws) : jc_J p l e R s m args below meth c Q D cl A nL k n pc lv st ws := by
  subst hp
  exact fun H locs ls hP hD hS hl => lv_iload X.1.1 X.1.2.1 d (lv_at hl j hj) (h H locs ls hP hD hS hl)
theorem jj_aload_n (X : jc_X p s m args c cc nL Ts own D cl tys nst A) {f : Fin 4} {x : Nat} (d : decode cc pc = .ok (.aload_n f, 1)) (pc' : Nat) (hp : pc + 1 = pc') (j : Nat) (hj : lv[j]? = some ((f : Nat), .ref x)) (h : jc_J p l e R s m args below meth c Q D cl A nL k n pc' lv (.ref x :: st) ws) : jc_J p l e R s m args below meth c Q D cl A nL k n pc lv st ws := by
  subst hp
  exact fun H locs ls hP hD hS hl => lv_aload_n X.1.1 X.1.2.1 d rfl (lv_at hl j hj) (h H locs ls hP hD hS hl)
theorem jj_aload (X : jc_X p s m args c cc nL Ts own D cl tys nst A) {i : Nat} {x : Nat} (d : decode cc pc = .ok (.aload i, 2)) (pc' : Nat) (hp : pc + 2 = pc') (j : Nat) (hj : lv[j]? = some (i, .ref x)) (h : jc_J p l e R s m args below meth c Q D cl A nL k n pc' lv (.ref x :: st) ws) : jc_J p l e R s m args below meth c Q D cl A nL k n pc lv st ws := by
  subst hp
  exact fun H locs ls hP hD hS hl => lv_aload X.1.1 X.1.2.1 d (lv_at hl j hj) (h H locs ls hP hD hS hl)
theorem jj_istore_n (X : jc_X p s m args c cc nL Ts own D cl tys nst A) {f : Fin 4} {x : Int32} {lv' : List (Nat × Value)} (d : decode cc pc = .ok (.istore_n f, 1)) (pc' : Nat) (hp : pc + 1 = pc') (hn : (f : Nat) < nL) (hc : lv.all (fun q => Nat.beq q.2.category 1) = true) (hl' : jc_put lv (f : Nat) (.int x) = lv') (h : jc_J p l e R s m args below meth c Q D cl A nL k n pc' lv' st ws) : jc_J p l e R s m args below meth c Q D cl A nL k n pc lv (.int x :: st) ws := by
  subst hp; subst hl'
  exact fun H locs ls hP hD hS hl => lv_istore_n X.1.1 X.1.2.1 d rfl hl hn rfl (fun ls' hl' => h H locs ls' hP hD hS (jc_put_has hc hl'))
theorem jj_istore (X : jc_X p s m args c cc nL Ts own D cl tys nst A) {i : Nat} {x : Int32} {lv' : List (Nat × Value)} (d : decode cc pc = .ok (.istore i, 2)) (pc' : Nat) (hp : pc + 2 = pc') (hn : i < nL) (hc : lv.all (fun q => Nat.beq q.2.category 1) = true) (hl' : jc_put lv i (.int x) = lv') (h : jc_J p l e R s m args below meth c Q D cl A nL k n pc' lv' st ws) : jc_J p l e R s m args below meth c Q D cl A nL k n pc lv (.int x :: st) ws := by
  subst hp; subst hl'
  exact fun H locs ls hP hD hS hl => lv_istore X.1.1 X.1.2.1 d hl hn rfl (fun ls' hl' => h H locs ls' hP hD hS (jc_put_has hc hl'))
theorem jj_astore_n (X : jc_X p s m args c cc nL Ts own D cl tys nst A) {f : Fin 4} {x : Nat} {lv' : List (Nat × Value)} (d : decode cc pc = .ok (.astore_n f, 1)) (pc' : Nat) (hp : pc + 1 = pc') (hn : (f : Nat) < nL) (hc : lv.all (fun q => Nat.beq q.2.category 1) = true) (hl' : jc_put lv (f : Nat) (.ref x) = lv') (h : jc_J p l e R s m args below meth c Q D cl A nL k n pc' lv' st ws) : jc_J p l e R s m args below meth c Q D cl A nL k n pc lv (.ref x :: st) ws := by
  subst hp; subst hl'
  exact fun H locs ls hP hD hS hl => lv_astore_n X.1.1 X.1.2.1 d rfl hl hn rfl (fun ls' hl' => h H locs ls' hP hD hS (jc_put_has hc hl'))
theorem jj_astore (X : jc_X p s m args c cc nL Ts own D cl tys nst A) {i : Nat} {x : Nat} {lv' : List (Nat × Value)} (d : decode cc pc = .ok (.astore i, 2)) (pc' : Nat) (hp : pc + 2 = pc') (hn : i < nL) (hc : lv.all (fun q => Nat.beq q.2.category 1) = true) (hl' : jc_put lv i (.ref x) = lv') (h : jc_J p l e R s m args below meth c Q D cl A nL k n pc' lv' st ws) : jc_J p l e R s m args below meth c Q D cl A nL k n pc lv (.ref x :: st) ws := by
  subst hp; subst hl'
  exact fun H locs ls hP hD hS hl => lv_astore X.1.1 X.1.2.1 d hl hn rfl (fun ls' hl' => h H locs ls' hP hD hS (jc_put_has hc hl'))
theorem jj_iinc (X : jc_X p s m args c cc nL Ts own D cl tys nst A) {i : Nat} {z : Int} {x v : Int32} {lv' : List (Nat × Value)} (d : decode cc pc = .ok (.iinc i z, 3)) (pc' : Nat) (hp : pc + 3 = pc') (j : Nat) (hj : lv[j]? = some (i, .int x)) (hv : x + Int32.ofInt z = v) (hn : i < nL) (hc : lv.all (fun q => Nat.beq q.2.category 1) = true) (hl' : jc_put lv i (.int v) = lv') (h : jc_J p l e R s m args below meth c Q D cl A nL k n pc' lv' st ws) : jc_J p l e R s m args below meth c Q D cl A nL k n pc lv st ws := by
  subst hp; subst hl'
  exact fun H locs ls hP hD hS hl => lv_iinc X.1.1 X.1.2.1 d hl hj hv hn rfl (fun ls' hl' => h H locs ls' hP hD hS (jc_put_has hc hl'))
theorem jj_iadd (X : jc_X p s m args c cc nL Ts own D cl tys nst A) {x y : Int32} (d : decode cc pc = .ok (.iadd, 1)) (pc' : Nat) (hp : pc + 1 = pc') (h : jc_J p l e R s m args below meth c Q D cl A nL k n pc' lv (.int (x + y) :: st) ws) : jc_J p l e R s m args below meth c Q D cl A nL k n pc lv (.int y :: .int x :: st) ws := by
  subst hp
  exact fun H locs ls hP hD hS hl => lv_iadd X.1.1 X.1.2.1 d (h H locs ls hP hD hS hl)
theorem jj_isub (X : jc_X p s m args c cc nL Ts own D cl tys nst A) {x y : Int32} (d : decode cc pc = .ok (.isub, 1)) (pc' : Nat) (hp : pc + 1 = pc') (h : jc_J p l e R s m args below meth c Q D cl A nL k n pc' lv (.int (x - y) :: st) ws) : jc_J p l e R s m args below meth c Q D cl A nL k n pc lv (.int y :: .int x :: st) ws := by
  subst hp
  exact fun H locs ls hP hD hS hl => lv_isub X.1.1 X.1.2.1 d (h H locs ls hP hD hS hl)
theorem jj_imul (X : jc_X p s m args c cc nL Ts own D cl tys nst A) {x y : Int32} (d : decode cc pc = .ok (.imul, 1)) (pc' : Nat) (hp : pc + 1 = pc') (h : jc_J p l e R s m args below meth c Q D cl A nL k n pc' lv (.int (x * y) :: st) ws) : jc_J p l e R s m args below meth c Q D cl A nL k n pc lv (.int y :: .int x :: st) ws := by
  subst hp
  exact fun H locs ls hP hD hS hl => lv_imul X.1.1 X.1.2.1 d (h H locs ls hP hD hS hl)
theorem jj_iand (X : jc_X p s m args c cc nL Ts own D cl tys nst A) {x y : Int32} (d : decode cc pc = .ok (.iand, 1)) (pc' : Nat) (hp : pc + 1 = pc') (h : jc_J p l e R s m args below meth c Q D cl A nL k n pc' lv (.int (x &&& y) :: st) ws) : jc_J p l e R s m args below meth c Q D cl A nL k n pc lv (.int y :: .int x :: st) ws := by
  subst hp
  exact fun H locs ls hP hD hS hl => lv_iand X.1.1 X.1.2.1 d (h H locs ls hP hD hS hl)
theorem jj_ior (X : jc_X p s m args c cc nL Ts own D cl tys nst A) {x y : Int32} (d : decode cc pc = .ok (.ior, 1)) (pc' : Nat) (hp : pc + 1 = pc') (h : jc_J p l e R s m args below meth c Q D cl A nL k n pc' lv (.int (x ||| y) :: st) ws) : jc_J p l e R s m args below meth c Q D cl A nL k n pc lv (.int y :: .int x :: st) ws := by
  subst hp
  exact fun H locs ls hP hD hS hl => lv_ior X.1.1 X.1.2.1 d (h H locs ls hP hD hS hl)
theorem jj_ixor (X : jc_X p s m args c cc nL Ts own D cl tys nst A) {x y : Int32} (d : decode cc pc = .ok (.ixor, 1)) (pc' : Nat) (hp : pc + 1 = pc') (h : jc_J p l e R s m args below meth c Q D cl A nL k n pc' lv (.int (x ^^^ y) :: st) ws) : jc_J p l e R s m args below meth c Q D cl A nL k n pc lv (.int y :: .int x :: st) ws := by
  subst hp
  exact fun H locs ls hP hD hS hl => lv_ixor X.1.1 X.1.2.1 d (h H locs ls hP hD hS hl)
theorem jj_ishl (X : jc_X p s m args c cc nL Ts own D cl tys nst A) {x y : Int32} (d : decode cc pc = .ok (.ishl, 1)) (pc' : Nat) (hp : pc + 1 = pc') (h : jc_J p l e R s m args below meth c Q D cl A nL k n pc' lv (.int (x <<< (y &&& 31)) :: st) ws) : jc_J p l e R s m args below meth c Q D cl A nL k n pc lv (.int y :: .int x :: st) ws := by
  subst hp
  exact fun H locs ls hP hD hS hl => lv_ishl X.1.1 X.1.2.1 d (h H locs ls hP hD hS hl)
theorem jj_ishr (X : jc_X p s m args c cc nL Ts own D cl tys nst A) {x y : Int32} (d : decode cc pc = .ok (.ishr, 1)) (pc' : Nat) (hp : pc + 1 = pc') (h : jc_J p l e R s m args below meth c Q D cl A nL k n pc' lv (.int (x >>> (y &&& 31)) :: st) ws) : jc_J p l e R s m args below meth c Q D cl A nL k n pc lv (.int y :: .int x :: st) ws := by
  subst hp
  exact fun H locs ls hP hD hS hl => lv_ishr X.1.1 X.1.2.1 d (h H locs ls hP hD hS hl)
theorem jj_idiv (X : jc_X p s m args c cc nL Ts own D cl tys nst A) {x y : Int32} (d : decode cc pc = .ok (.idiv, 1)) (pc' : Nat) (hp : pc + 1 = pc') (hne : ¬ y = 0) (h : jc_J p l e R s m args below meth c Q D cl A nL k n pc' lv (.int (x / y) :: st) ws) : jc_J p l e R s m args below meth c Q D cl A nL k n pc lv (.int y :: .int x :: st) ws := by
  subst hp
  exact fun H locs ls hP hD hS hl => lv_idiv X.1.1 X.1.2.1 d hne (h H locs ls hP hD hS hl)
theorem jj_irem (X : jc_X p s m args c cc nL Ts own D cl tys nst A) {x y : Int32} (d : decode cc pc = .ok (.irem, 1)) (pc' : Nat) (hp : pc + 1 = pc') (hne : ¬ y = 0) (h : jc_J p l e R s m args below meth c Q D cl A nL k n pc' lv (.int (x - x / y * y) :: st) ws) : jc_J p l e R s m args below meth c Q D cl A nL k n pc lv (.int y :: .int x :: st) ws := by
  subst hp
  exact fun H locs ls hP hD hS hl => lv_irem X.1.1 X.1.2.1 d hne (h H locs ls hP hD hS hl)
theorem jj_ineg (X : jc_X p s m args c cc nL Ts own D cl tys nst A) {x : Int32} (d : decode cc pc = .ok (.ineg, 1)) (pc' : Nat) (hp : pc + 1 = pc') (h : jc_J p l e R s m args below meth c Q D cl A nL k n pc' lv (.int (-x) :: st) ws) : jc_J p l e R s m args below meth c Q D cl A nL k n pc lv (.int x :: st) ws := by
  subst hp
  exact fun H locs ls hP hD hS hl => lv_ineg X.1.1 X.1.2.1 d (h H locs ls hP hD hS hl)
theorem jj_dup (X : jc_X p s m args c cc nL Ts own D cl tys nst A) {v : Value} (d : decode cc pc = .ok (.dup, 1)) (pc' : Nat) (hp : pc + 1 = pc') (hv : v.category = 1) (h : jc_J p l e R s m args below meth c Q D cl A nL k n pc' lv (v :: v :: st) ws) : jc_J p l e R s m args below meth c Q D cl A nL k n pc lv (v :: st) ws := by
  subst hp
  exact fun H locs ls hP hD hS hl => lv_dup X.1.1 X.1.2.1 d hv (h H locs ls hP hD hS hl)
theorem jj_pop (X : jc_X p s m args c cc nL Ts own D cl tys nst A) {v : Value} (d : decode cc pc = .ok (.pop, 1)) (pc' : Nat) (hp : pc + 1 = pc') (hv : v.category = 1) (h : jc_J p l e R s m args below meth c Q D cl A nL k n pc' lv st ws) : jc_J p l e R s m args below meth c Q D cl A nL k n pc lv (v :: st) ws := by
  subst hp
  exact fun H locs ls hP hD hS hl => lv_pop X.1.1 X.1.2.1 d hv (h H locs ls hP hD hS hl)
theorem jj_dup_x1 (X : jc_X p s m args c cc nL Ts own D cl tys nst A) {v w : Value} (d : decode cc pc = .ok (.dup_x1, 1)) (pc' : Nat) (hp : pc + 1 = pc') (hv : v.category = 1) (hw : w.category = 1) (h : jc_J p l e R s m args below meth c Q D cl A nL k n pc' lv (v :: w :: v :: st) ws) : jc_J p l e R s m args below meth c Q D cl A nL k n pc lv (v :: w :: st) ws := by
  subst hp
  exact fun H locs ls hP hD hS hl => lv_dup_x1 X.1.1 X.1.2.1 d hv hw (h H locs ls hP hD hS hl)
theorem jj_dup_x2 (X : jc_X p s m args c cc nL Ts own D cl tys nst A) {v w u : Value} (d : decode cc pc = .ok (.dup_x2, 1)) (pc' : Nat) (hp : pc + 1 = pc') (hv : v.category = 1) (hw : w.category = 1) (hu : u.category = 1) (h : jc_J p l e R s m args below meth c Q D cl A nL k n pc' lv (v :: w :: u :: v :: st) ws) : jc_J p l e R s m args below meth c Q D cl A nL k n pc lv (v :: w :: u :: st) ws := by
  subst hp
  exact fun H locs ls hP hD hS hl => lv_dup_x2 X.1.1 X.1.2.1 d hv hw hu (h H locs ls hP hD hS hl)
theorem jj_dup2 (X : jc_X p s m args c cc nL Ts own D cl tys nst A) {v w : Value} (d : decode cc pc = .ok (.dup2, 1)) (pc' : Nat) (hp : pc + 1 = pc') (hv : v.category = 1) (hw : w.category = 1) (h : jc_J p l e R s m args below meth c Q D cl A nL k n pc' lv (v :: w :: v :: w :: st) ws) : jc_J p l e R s m args below meth c Q D cl A nL k n pc lv (v :: w :: st) ws := by
  subst hp
  exact fun H locs ls hP hD hS hl => lv_dup2_11 X.1.1 X.1.2.1 d hv hw (h H locs ls hP hD hS hl)
theorem jj_if_eq (X : jc_X p s m args c cc nL Ts own D cl tys nst A) {x : Int32} {off : Int} (d : decode cc pc = .ok (.ifCond .eq off, 3)) (tgt pc' : Nat) (ht : (pc : Int) + off = (tgt : Int)) (hp : pc + 3 = pc') (kt : x = 0 → jc_J p l e R s m args below meth c Q D cl A nL k n tgt lv st ws) (kf : ¬ x = 0 → jc_J p l e R s m args below meth c Q D cl A nL k n pc' lv st ws) : jc_J p l e R s m args below meth c Q D cl A nL k n pc lv (.int x :: st) ws := by
  subst hp
  exact fun H locs ls hP hD hS hl => lv_if_eq X.1.1 X.1.2.1 d ht (fun q => kt q H locs ls hP hD hS hl) (fun q => kf q H locs ls hP hD hS hl)
theorem jj_icmp_eq (X : jc_X p s m args c cc nL Ts own D cl tys nst A) {x y : Int32} {off : Int} (d : decode cc pc = .ok (.if_icmp .eq off, 3)) (tgt pc' : Nat) (ht : (pc : Int) + off = (tgt : Int)) (hp : pc + 3 = pc') (kt : x = y → jc_J p l e R s m args below meth c Q D cl A nL k n tgt lv st ws) (kf : ¬ x = y → jc_J p l e R s m args below meth c Q D cl A nL k n pc' lv st ws) : jc_J p l e R s m args below meth c Q D cl A nL k n pc lv (.int y :: .int x :: st) ws := by
  subst hp
  exact fun H locs ls hP hD hS hl => lv_icmp_eq X.1.1 X.1.2.1 d ht (fun q => kt q H locs ls hP hD hS hl) (fun q => kf q H locs ls hP hD hS hl)
theorem jj_if_ne (X : jc_X p s m args c cc nL Ts own D cl tys nst A) {x : Int32} {off : Int} (d : decode cc pc = .ok (.ifCond .ne off, 3)) (tgt pc' : Nat) (ht : (pc : Int) + off = (tgt : Int)) (hp : pc + 3 = pc') (kt : ¬ x = 0 → jc_J p l e R s m args below meth c Q D cl A nL k n tgt lv st ws) (kf : x = 0 → jc_J p l e R s m args below meth c Q D cl A nL k n pc' lv st ws) : jc_J p l e R s m args below meth c Q D cl A nL k n pc lv (.int x :: st) ws := by
  subst hp
  exact fun H locs ls hP hD hS hl => lv_if_ne X.1.1 X.1.2.1 d ht (fun q => kt q H locs ls hP hD hS hl) (fun q => kf q H locs ls hP hD hS hl)
theorem jj_icmp_ne (X : jc_X p s m args c cc nL Ts own D cl tys nst A) {x y : Int32} {off : Int} (d : decode cc pc = .ok (.if_icmp .ne off, 3)) (tgt pc' : Nat) (ht : (pc : Int) + off = (tgt : Int)) (hp : pc + 3 = pc') (kt : ¬ x = y → jc_J p l e R s m args below meth c Q D cl A nL k n tgt lv st ws) (kf : x = y → jc_J p l e R s m args below meth c Q D cl A nL k n pc' lv st ws) : jc_J p l e R s m args below meth c Q D cl A nL k n pc lv (.int y :: .int x :: st) ws := by
  subst hp
  exact fun H locs ls hP hD hS hl => lv_icmp_ne X.1.1 X.1.2.1 d ht (fun q => kt q H locs ls hP hD hS hl) (fun q => kf q H locs ls hP hD hS hl)
theorem jj_if_lt (X : jc_X p s m args c cc nL Ts own D cl tys nst A) {x : Int32} {off : Int} (d : decode cc pc = .ok (.ifCond .lt off, 3)) (tgt pc' : Nat) (ht : (pc : Int) + off = (tgt : Int)) (hp : pc + 3 = pc') (kt : x < 0 → jc_J p l e R s m args below meth c Q D cl A nL k n tgt lv st ws) (kf : ¬ x < 0 → jc_J p l e R s m args below meth c Q D cl A nL k n pc' lv st ws) : jc_J p l e R s m args below meth c Q D cl A nL k n pc lv (.int x :: st) ws := by
  subst hp
  exact fun H locs ls hP hD hS hl => lv_if_lt X.1.1 X.1.2.1 d ht (fun q => kt q H locs ls hP hD hS hl) (fun q => kf q H locs ls hP hD hS hl)
theorem jj_icmp_lt (X : jc_X p s m args c cc nL Ts own D cl tys nst A) {x y : Int32} {off : Int} (d : decode cc pc = .ok (.if_icmp .lt off, 3)) (tgt pc' : Nat) (ht : (pc : Int) + off = (tgt : Int)) (hp : pc + 3 = pc') (kt : x < y → jc_J p l e R s m args below meth c Q D cl A nL k n tgt lv st ws) (kf : ¬ x < y → jc_J p l e R s m args below meth c Q D cl A nL k n pc' lv st ws) : jc_J p l e R s m args below meth c Q D cl A nL k n pc lv (.int y :: .int x :: st) ws := by
  subst hp
  exact fun H locs ls hP hD hS hl => lv_icmp_lt X.1.1 X.1.2.1 d ht (fun q => kt q H locs ls hP hD hS hl) (fun q => kf q H locs ls hP hD hS hl)
theorem jj_if_ge (X : jc_X p s m args c cc nL Ts own D cl tys nst A) {x : Int32} {off : Int} (d : decode cc pc = .ok (.ifCond .ge off, 3)) (tgt pc' : Nat) (ht : (pc : Int) + off = (tgt : Int)) (hp : pc + 3 = pc') (kt : 0 ≤ x → jc_J p l e R s m args below meth c Q D cl A nL k n tgt lv st ws) (kf : ¬ 0 ≤ x → jc_J p l e R s m args below meth c Q D cl A nL k n pc' lv st ws) : jc_J p l e R s m args below meth c Q D cl A nL k n pc lv (.int x :: st) ws := by
  subst hp
  exact fun H locs ls hP hD hS hl => lv_if_ge X.1.1 X.1.2.1 d ht (fun q => kt q H locs ls hP hD hS hl) (fun q => kf q H locs ls hP hD hS hl)
theorem jj_icmp_ge (X : jc_X p s m args c cc nL Ts own D cl tys nst A) {x y : Int32} {off : Int} (d : decode cc pc = .ok (.if_icmp .ge off, 3)) (tgt pc' : Nat) (ht : (pc : Int) + off = (tgt : Int)) (hp : pc + 3 = pc') (kt : y ≤ x → jc_J p l e R s m args below meth c Q D cl A nL k n tgt lv st ws) (kf : ¬ y ≤ x → jc_J p l e R s m args below meth c Q D cl A nL k n pc' lv st ws) : jc_J p l e R s m args below meth c Q D cl A nL k n pc lv (.int y :: .int x :: st) ws := by
  subst hp
  exact fun H locs ls hP hD hS hl => lv_icmp_ge X.1.1 X.1.2.1 d ht (fun q => kt q H locs ls hP hD hS hl) (fun q => kf q H locs ls hP hD hS hl)
theorem jj_if_gt (X : jc_X p s m args c cc nL Ts own D cl tys nst A) {x : Int32} {off : Int} (d : decode cc pc = .ok (.ifCond .gt off, 3)) (tgt pc' : Nat) (ht : (pc : Int) + off = (tgt : Int)) (hp : pc + 3 = pc') (kt : 0 < x → jc_J p l e R s m args below meth c Q D cl A nL k n tgt lv st ws) (kf : ¬ 0 < x → jc_J p l e R s m args below meth c Q D cl A nL k n pc' lv st ws) : jc_J p l e R s m args below meth c Q D cl A nL k n pc lv (.int x :: st) ws := by
  subst hp
  exact fun H locs ls hP hD hS hl => lv_if_gt X.1.1 X.1.2.1 d ht (fun q => kt q H locs ls hP hD hS hl) (fun q => kf q H locs ls hP hD hS hl)
theorem jj_icmp_gt (X : jc_X p s m args c cc nL Ts own D cl tys nst A) {x y : Int32} {off : Int} (d : decode cc pc = .ok (.if_icmp .gt off, 3)) (tgt pc' : Nat) (ht : (pc : Int) + off = (tgt : Int)) (hp : pc + 3 = pc') (kt : y < x → jc_J p l e R s m args below meth c Q D cl A nL k n tgt lv st ws) (kf : ¬ y < x → jc_J p l e R s m args below meth c Q D cl A nL k n pc' lv st ws) : jc_J p l e R s m args below meth c Q D cl A nL k n pc lv (.int y :: .int x :: st) ws := by
  subst hp
  exact fun H locs ls hP hD hS hl => lv_icmp_gt X.1.1 X.1.2.1 d ht (fun q => kt q H locs ls hP hD hS hl) (fun q => kf q H locs ls hP hD hS hl)
theorem jj_if_le (X : jc_X p s m args c cc nL Ts own D cl tys nst A) {x : Int32} {off : Int} (d : decode cc pc = .ok (.ifCond .le off, 3)) (tgt pc' : Nat) (ht : (pc : Int) + off = (tgt : Int)) (hp : pc + 3 = pc') (kt : x ≤ 0 → jc_J p l e R s m args below meth c Q D cl A nL k n tgt lv st ws) (kf : ¬ x ≤ 0 → jc_J p l e R s m args below meth c Q D cl A nL k n pc' lv st ws) : jc_J p l e R s m args below meth c Q D cl A nL k n pc lv (.int x :: st) ws := by
  subst hp
  exact fun H locs ls hP hD hS hl => lv_if_le X.1.1 X.1.2.1 d ht (fun q => kt q H locs ls hP hD hS hl) (fun q => kf q H locs ls hP hD hS hl)
theorem jj_icmp_le (X : jc_X p s m args c cc nL Ts own D cl tys nst A) {x y : Int32} {off : Int} (d : decode cc pc = .ok (.if_icmp .le off, 3)) (tgt pc' : Nat) (ht : (pc : Int) + off = (tgt : Int)) (hp : pc + 3 = pc') (kt : x ≤ y → jc_J p l e R s m args below meth c Q D cl A nL k n tgt lv st ws) (kf : ¬ x ≤ y → jc_J p l e R s m args below meth c Q D cl A nL k n pc' lv st ws) : jc_J p l e R s m args below meth c Q D cl A nL k n pc lv (.int y :: .int x :: st) ws := by
  subst hp
  exact fun H locs ls hP hD hS hl => lv_icmp_le X.1.1 X.1.2.1 d ht (fun q => kt q H locs ls hP hD hS hl) (fun q => kf q H locs ls hP hD hS hl)
theorem jj_goto (X : jc_X p s m args c cc nL Ts own D cl tys nst A) {off : Int} (d : decode cc pc = .ok (.goto off, 3)) (tgt : Nat) (ht : (pc : Int) + off = (tgt : Int)) (h : jc_J p l e R s m args below meth c Q D cl A nL k n tgt lv st ws) : jc_J p l e R s m args below meth c Q D cl A nL k n pc lv st ws :=
  fun H locs ls hP hD hS hl => lv_goto X.1.1 X.1.2.1 d ht (h H locs ls hP hD hS hl)
theorem jj_tableIn (X : jc_X p s m args c cc nL Ts own D cl tys nst A) {dflt lo hi : Int} {offs : Array Int} {len : Nat} {x : Int32} {off : Int} (d : decode cc pc = .ok (.tableswitch dflt lo hi offs, len)) (tgt : Nat) (h1 : ¬ x.toInt < lo) (h2 : ¬ hi < x.toInt) (ho : offs[(x.toInt - lo).toNat]? = some off) (ht : (pc : Int) + off = (tgt : Int)) (h : jc_J p l e R s m args below meth c Q D cl A nL k n tgt lv st ws) : jc_J p l e R s m args below meth c Q D cl A nL k n pc lv (.int x :: st) ws :=
  fun H locs ls hP hD hS hl => lv_tableIn X.1.1 X.1.2.1 d h1 h2 ho ht (h H locs ls hP hD hS hl)
theorem jj_tableOut (X : jc_X p s m args c cc nL Ts own D cl tys nst A) {dflt lo hi : Int} {offs : Array Int} {len : Nat} {x : Int32} (d : decode cc pc = .ok (.tableswitch dflt lo hi offs, len)) (tgt : Nat) (h1 : x.toInt < lo ∨ hi < x.toInt) (ht : (pc : Int) + dflt = (tgt : Int)) (h : jc_J p l e R s m args below meth c Q D cl A nL k n tgt lv st ws) : jc_J p l e R s m args below meth c Q D cl A nL k n pc lv (.int x :: st) ws :=
  fun H locs ls hP hD hS hl => lv_tableOut X.1.1 X.1.2.1 d h1 ht (h H locs ls hP hD hS hl)
theorem jj_lookup (X : jc_X p s m args c cc nL Ts own D cl tys nst A) {dflt : Int} {ps : Array (Int × Int)} {len : Nat} {x : Int32} {off : Int} (d : decode cc pc = .ok (.lookupswitch dflt ps, len)) (tgt : Nat) (hs : (ps.toList.zip (ps.toList.drop 1)).all (fun (a, next) => a.1 < next.1) = true) (ho : Op.lookupswitch.offset ps.toList dflt x.toInt = off) (ht : (pc : Int) + off = (tgt : Int)) (h : jc_J p l e R s m args below meth c Q D cl A nL k n tgt lv st ws) : jc_J p l e R s m args below meth c Q D cl A nL k n pc lv (.int x :: st) ws :=
  fun H locs ls hP hD hS hl => lv_lookup X.1.1 X.1.2.1 d hs ho ht (h H locs ls hP hD hS hl)
theorem jj_get (X : jc_X p s m args c cc nL Ts own D cl tys nst A) {ref C : String} {T : u_T} {N ci index a : Nat} {fs : List Value} {v : Value} (d : decode cc pc = .ok (.getfield index, 3)) (pc' : Nat) (hp : pc + 3 = pc') (hin : ∀ w ∈ u_ws C T N, w ∈ Ts) (f : Nat) (hlink : Cond.fieldLink own index ref (T f).2.1 (T f).2.2.1 ∈ Ts) (q0 : Nat) (he : ws[q0]? = some (a, .inr (ci, fs))) (hc : cl[ci]? = some (C, T, N)) (hf : f < N) (hs : (T f).1 = ref) (hv : fs[f]? = some v) (h : jc_J p l e R s m args below meth c Q D cl A nL k n pc' lv (v :: st) ws) : jc_J p l e R s m args below meth c Q D cl A nL k n pc lv (.ref a :: st) ws := by
  subst hp
  exact fun H locs ls hP hD hS hl => va_get X.1.1 X.1.2.1 X.1.2.2.2.2 hin X.1.2.2.2.1 X.2.1 hP q0 he hc f hf (X.1.2.2.2.2 _ hlink) (fun x h9 => by rw [← hs]; exact h9) hv d (h H locs ls hP hD hS hl)
theorem jj_put (X : jc_X p s m args c cc nL Ts own D cl tys nst A) {ref C : String} {T : u_T} {N ci index a : Nat} {fs : List Value} {v : Value} {ty : FieldType} {ws' : va_W} (d : decode cc pc = .ok (.putfield index, 3)) (pc' : Nat) (hp : pc + 3 = pc') (hin : ∀ w ∈ u_ws C T N, w ∈ Ts) (ty0 : Nat → FieldType) (hty : ∀ k, k < N → parseFieldDescriptor (T k).2.2.1 = some (ty0 k)) (hnm : ∀ a, a < N → ∀ b, b < N → a ≠ b → (T a).2.1 ≠ (T b).2.1) (f : Nat) (hlink : Cond.fieldLink own index ref (T f).2.1 (T f).2.2.1 ∈ Ts) (q0 : Nat) (he : ws[q0]? = some (a, .inr (ci, fs))) (hc : cl[ci]? = some (C, T, N)) (hf : f < N) (hs : (T f).1 = ref) (hfin : (T f).2.2.2 = false) (hd : parseFieldDescriptor (T f).2.2.1 = some ty) (hn : narrow ty v = v) (hfit : fits ty v = true) (hlf : f < fs.length) (hw : ws.set q0 (a, .inr (ci, fs.set f v)) = ws') (h : jc_J p l e R s m args below meth c Q D cl A nL k n pc' lv st ws') : jc_J p l e R s m args below meth c Q D cl A nL k n pc lv (v :: .ref a :: st) ws := by
  subst hp; subst hw
  exact fun H locs ls hP hD hS hl => va_put X.1.1 X.1.2.1 X.1.2.2.2.2 hin ty0 hty hnm X.1.2.2.2.1 X.2.1 hP hD hS q0 he hc f hf (X.1.2.2.2.2 _ hlink) (fun x h9 => by rw [← hs]; exact h9) hfin hd hn hfit hlf d (fun H locs hP hD hS => h H locs ls hP hD hS hl)
theorem jj_putF (X : jc_X p s m args c cc nL Ts own D cl tys nst A) {C : String} {T : u_T} {N ci index a : Nat} {fs : List Value} {v : Value} {ty : FieldType} {ws' : va_W} (d : decode cc pc = .ok (.putfield index, 3)) (pc' : Nat) (hp : pc + 3 = pc') (hin : ∀ w ∈ u_ws C T N, w ∈ Ts) (ty0 : Nat → FieldType) (hty : ∀ k, k < N → parseFieldDescriptor (T k).2.2.1 = some (ty0 k)) (hnm : ∀ a, a < N → ∀ b, b < N → a ≠ b → (T a).2.1 ≠ (T b).2.1) (f : Nat) (hlink : Cond.fieldLink own index own (T f).2.1 (T f).2.2.1 ∈ Ts) (hin2 : meth.name = "<init>") (q0 : Nat) (he : ws[q0]? = some (a, .inr (ci, fs))) (hc : cl[ci]? = some (C, T, N)) (hf : f < N) (hs : (T f).1 = own) (hfin : (T f).2.2.2 = true) (hd : parseFieldDescriptor (T f).2.2.1 = some ty) (hn : narrow ty v = v) (hfit : fits ty v = true) (hlf : f < fs.length) (hw : ws.set q0 (a, .inr (ci, fs.set f v)) = ws') (h : jc_J p l e R s m args below meth c Q D cl A nL k n pc' lv st ws') : jc_J p l e R s m args below meth c Q D cl A nL k n pc lv (v :: .ref a :: st) ws := by
  subst hp; subst hw
  exact fun H locs ls hP hD hS hl => va_putF X.1.1 X.1.2.1 X.1.2.2.2.2 hin ty0 hty hnm X.1.2.2.2.1 X.2.1 hP hD hS q0 he hc f hf (X.1.2.2.2.2 _ hlink) (fun x h9 => by rw [← hs]; exact h9) hfin hin2 hs hd hn hfit hlf d (fun H locs hP hD hS => h H locs ls hP hD hS hl)
theorem jj_iald (X : jc_X p s m args c cc nL Ts own D cl tys nst A) {cA : ClassId} {a N : Nat} {f : Nat → Int32} {i v : Int32} (d : decode cc pc = .ok (.iaload, 1)) (pc' : Nat) (hp : pc + 1 = pc') (q0 t0 : Nat) (ha : ws[q0]? = some (a, .inl (cA, N, .inl f))) (ht : tys[t0]? = some (cA, .int)) (hin : vp_in i N) (hv : f i.toNatClampNeg = v) (h : jc_J p l e R s m args below meth c Q D cl A nL k n pc' lv (.int v :: st) ws) : jc_J p l e R s m args below meth c Q D cl A nL k n pc lv (.int i :: .ref a :: st) ws := by
  subst hp; subst hv
  exact fun H locs ls hP hD hS hl => va_iald X.1.1 X.1.2.1 X.2.1 hP q0 t0 ha ht hin d (h H locs ls hP hD hS hl)
theorem jj_zald (X : jc_X p s m args c cc nL Ts own D cl tys nst A) {cA : ClassId} {a N : Nat} {f : Nat → Int32} {i v : Int32} (d : decode cc pc = .ok (.baload, 1)) (pc' : Nat) (hp : pc + 1 = pc') (q0 t0 : Nat) (ha : ws[q0]? = some (a, .inl (cA, N, .inl f))) (ht : tys[t0]? = some (cA, .boolean)) (hin : vp_in i N) (hv : f i.toNatClampNeg = v) (h : jc_J p l e R s m args below meth c Q D cl A nL k n pc' lv (.int v :: st) ws) : jc_J p l e R s m args below meth c Q D cl A nL k n pc lv (.int i :: .ref a :: st) ws := by
  subst hp; subst hv
  exact fun H locs ls hP hD hS hl => va_zald X.1.1 X.1.2.1 X.2.1 hP q0 t0 ha ht hin d (h H locs ls hP hD hS hl)
theorem jj_iast (X : jc_X p s m args c cc nL Ts own D cl tys nst A) {cA : ClassId} {a N : Nat} {f : Nat → Int32} {i x : Int32} {ws' : va_W} (d : decode cc pc = .ok (.iastore, 1)) (pc' : Nat) (hp : pc + 1 = pc') (q0 t0 : Nat) (ha : ws[q0]? = some (a, .inl (cA, N, .inl f))) (ht : tys[t0]? = some (cA, .int)) (hin : vp_in i N) (hw : ws.set q0 (a, .inl (cA, N, .inl (upd f i.toNatClampNeg x))) = ws') (h : jc_J p l e R s m args below meth c Q D cl A nL k n pc' lv st ws') : jc_J p l e R s m args below meth c Q D cl A nL k n pc lv (.int x :: .int i :: .ref a :: st) ws := by
  subst hp; subst hw
  exact fun H locs ls hP hD hS hl => va_iast X.1.1 X.1.2.1 X.2.1 hP hD hS q0 t0 ha ht hin d (fun H locs hP hD hS => h H locs ls hP hD hS hl)
theorem jj_zast (X : jc_X p s m args c cc nL Ts own D cl tys nst A) {cA : ClassId} {a N : Nat} {f : Nat → Int32} {i x : Int32} {ws' : va_W} (d : decode cc pc = .ok (.bastore, 1)) (pc' : Nat) (hp : pc + 1 = pc') (q0 t0 : Nat) (ha : ws[q0]? = some (a, .inl (cA, N, .inl f))) (ht : tys[t0]? = some (cA, .boolean)) (hin : vp_in i N) (hn : vp_nar .boolean x = x) (hw : ws.set q0 (a, .inl (cA, N, .inl (upd f i.toNatClampNeg x))) = ws') (h : jc_J p l e R s m args below meth c Q D cl A nL k n pc' lv st ws') : jc_J p l e R s m args below meth c Q D cl A nL k n pc lv (.int x :: .int i :: .ref a :: st) ws := by
  subst hp; subst hw
  exact fun H locs ls hP hD hS hl => va_zast X.1.1 X.1.2.1 X.2.1 hP hD hS q0 t0 ha ht hin d (fun H locs hP hD hS => by rw [hn] at hP hD; exact h H locs ls hP hD hS hl)
theorem jj_alen (X : jc_X p s m args c cc nL Ts own D cl tys nst A) {cA : ClassId} {a : Nat} {x : vp_A} {ty : FieldType} {v : Int32} (d : decode cc pc = .ok (.arraylength, 1)) (pc' : Nat) (hp : pc + 1 = pc') (q0 t0 : Nat) (ha : ws[q0]? = some (a, .inl (cA, x))) (ht : tys[t0]? = some (cA, ty)) (hv : Int32.ofNat x.1 = v) (h : jc_J p l e R s m args below meth c Q D cl A nL k n pc' lv (.int v :: st) ws) : jc_J p l e R s m args below meth c Q D cl A nL k n pc lv (.ref a :: st) ws := by
  subst hp
  exact fun H locs ls hP hD hS hl => va_alen X.1.1 X.1.2.1 X.2.1 hP q0 t0 ha ht hv d (h H locs ls hP hD hS hl)
theorem jj_sld (X : jc_X p s m args c cc nL Ts own D cl tys nst A) {b L : Nat} {xs : Nat → Int32} (hX : va_X b L xs s s.heap) (hbl : b < s.heap.size) (hbA : ¬ A b) {i : Int32} (d : decode cc pc = .ok (.iaload, 1)) (pc' : Nat) (hp : pc + 1 = pc') (hin : vp_in i L) (h : jc_J p l e R s m args below meth c Q D cl A nL k n pc' lv (.int (xs i.toNatClampNeg) :: st) ws) : jc_J p l e R s m args below meth c Q D cl A nL k n pc lv (.int i :: .ref b :: st) ws := by
  subst hp
  exact fun H locs ls hP hD hS hl => va_sld X.1.1 X.1.2.1 hX hbl hbA hS hin d (h H locs ls hP hD hS hl)
theorem jj_slen (X : jc_X p s m args c cc nL Ts own D cl tys nst A) {b L : Nat} {xs : Nat → Int32} (hX : va_X b L xs s s.heap) (hbl : b < s.heap.size) (hbA : ¬ A b) (d : decode cc pc = .ok (.arraylength, 1)) (pc' : Nat) (hp : pc + 1 = pc') (h : jc_J p l e R s m args below meth c Q D cl A nL k n pc' lv (.int (nI L) :: st) ws) : jc_J p l e R s m args below meth c Q D cl A nL k n pc lv (.ref b :: st) ws := by
  subst hp
  exact fun H locs ls hP hD hS hl => va_slen X.1.1 X.1.2.1 hX hbl hbA hS d (h H locs ls hP hD hS hl)
theorem jj_newI (X : jc_X p s m args c cc nL Ts own D cl tys nst A) {cA : ClassId} {z : Int32} {N : Nat} (d : decode cc pc = .ok (.newarray .int, 2)) (pc' : Nat) (hp : pc + 2 = pc') (harr : Cond.arrayClass .int ∈ Ts) (t0 : Nat) (ht : tys[t0]? = some (cA, .int)) (hn : ¬ z < 0) (hN : z.toNatClampNeg = N) (hb : N * componentBytes .int ≤ 536870912) (hc : k + 1 ≤ R.cells) (hs : n + N ≤ R.slots) (h : ∀ q : Nat, jc_J p l e R s m args below meth c Q D cl A nL (k + 1) (n + N) pc' lv (.ref q :: st) (ws ++ [(q, .inl (cA, N, .inl (fun _ => 0)))])) : jc_J p l e R s m args below meth c Q D cl A nL k n pc lv (.int z :: st) ws := by
  subst hp
  refine fun H locs ls hP hD hS hl => ?_
  refine va_newa (atype := .int) (a0 := (N, .inl (fun _ => 0))) (ty := .int) X.1.1 X.1.2.1 (X.1.2.2.2.2 _ harr) rfl X.2.1 hP hD hS X.2.2.1 (fun _ => rfl) hn hN hb hc hs d (fun q cB H1 hK1 hP1 hD1 hS1 => ?_)
  have e1 := (hK1.2 tys.length (cB, .int) (by simp)).2
  have e2 := (X.2.1.2 t0 (cA, .int) ht).2
  have e3 : cB = cA := Option.some.inj (e1.symm.trans e2)
  subst e3
  exact h q H1 locs ls hP1 hD1 hS1 hl
theorem jj_newZ (X : jc_X p s m args c cc nL Ts own D cl tys nst A) {cA : ClassId} {z : Int32} {N : Nat} (d : decode cc pc = .ok (.newarray .boolean, 2)) (pc' : Nat) (hp : pc + 2 = pc') (harr : Cond.arrayClass .boolean ∈ Ts) (t0 : Nat) (ht : tys[t0]? = some (cA, .boolean)) (hn : ¬ z < 0) (hN : z.toNatClampNeg = N) (hb : N * componentBytes .boolean ≤ 536870912) (hc : k + 1 ≤ R.cells) (hs : n + N ≤ R.slots) (h : ∀ q : Nat, jc_J p l e R s m args below meth c Q D cl A nL (k + 1) (n + N) pc' lv (.ref q :: st) (ws ++ [(q, .inl (cA, N, .inl (fun _ => 0)))])) : jc_J p l e R s m args below meth c Q D cl A nL k n pc lv (.int z :: st) ws := by
  subst hp
  refine fun H locs ls hP hD hS hl => ?_
  refine va_newa (atype := .boolean) (a0 := (N, .inl (fun _ => 0))) (ty := .boolean) X.1.1 X.1.2.1 (X.1.2.2.2.2 _ harr) rfl X.2.1 hP hD hS X.2.2.1 (fun _ => rfl) hn hN hb hc hs d (fun q cB H1 hK1 hP1 hD1 hS1 => ?_)
  have e1 := (hK1.2 tys.length (cB, .boolean) (by simp)).2
  have e2 := (X.2.1.2 t0 (cA, .boolean) ht).2
  have e3 : cB = cA := Option.some.inj (e1.symm.trans e2)
  subst e3
  exact h q H1 locs ls hP1 hD1 hS1 hl
theorem jj_new (X : jc_X p s m args c cc nL Ts own D cl tys nst A) {C : String} {T : u_T} {N ci index : Nat} {fs : List Value} (d : decode cc pc = .ok (.new index, 3)) (pc' : Nat) (hp : pc + 3 = pc') (hin : ∀ w ∈ u_ws C T N, w ∈ Ts) (ty : Nat → FieldType) (hty : ∀ k, k < N → parseFieldDescriptor (T k).2.2.1 = some (ty k)) (hcl : Cond.classLink own index C ∈ Ts) (hinst : Cond.instantiable C N ∈ Ts) (hini : Cond.initialized C ∈ Ts) (hc : cl[ci]? = some (C, T, N)) (hfs : ∀ j, j < N → defaultValue (ty j) = vp_V fs j) (hcells : k + 1 ≤ R.cells) (hslots : n + N ≤ R.slots) (h : ∀ q : Nat, jc_J p l e R s m args below meth c Q D cl A nL (k + 1) (n + N) pc' lv (.ref q :: st) (ws ++ [(q, .inr (ci, fs))])) : jc_J p l e R s m args below meth c Q D cl A nL k n pc lv st ws := by
  subst hp
  exact fun H locs ls hP hD hS hl => va_new X.1.1 X.1.2.1 X.1.2.2.2.2 hin ty hty X.1.2.2.2.1 (X.1.2.2.2.2 _ hcl) (X.1.2.2.2.2 _ hinst) (X.1.2.2.2.2 _ hini) X.2.1 hP hD hS X.2.2.1 hc hfs hcells hslots d (fun q H1 hP hD hS => h q H1 locs ls hP hD hS hl)
theorem jj_objInit (X : jc_X p s m args c cc nL Ts own D cl tys nst A) {a index : Nat} (d : decode cc pc = .ok (.invokespecial index, 3)) (pc' : Nat) (hp : pc + 3 = pc') (h1 : Cond.methodLink own index Lib.objectInit ∈ Ts) (h2 : Cond.instanceMethod Lib.objectInit ∈ Ts) (h3 : Cond.code Lib.objectInit ⟨#[0xb1]⟩ 1 none ∈ Ts) (hf : 1 ≤ R.frames) (hl0 : 12 ≤ R.locals) (h : jc_J p l e R s m args below meth c Q D cl A nL k n pc' lv [] ws) : jc_J p l e R s m args below meth c Q D cl A nL k n pc lv [.ref a] ws := by
  subst hp
  refine fun H locs ls hP hD hS hl => ?_
  refine W.objInit X.1.1 X.1.2.1 X.1.2.2.2.1 (X.1.2.2.2.2 _ h1) (X.1.2.2.2.2 _ h2) (X.1.2.2.2.2 _ h3) rfl (by rw [X.1.2.2.1]; exact hl.1) rfl d hf (by simpa using hl0) ?_
  exact h H locs ls hP hD hS hl
theorem jj_mmin (X : jc_X p s m args c cc nL Ts own D cl tys nst A) {x y : Int32} {index : Nat} (d : decode cc pc = .ok (.invokestatic index, 3)) (pc' : Nat) (hp : pc + 3 = pc') (h1 : Cond.methodLink own index Lib.Math.min.name ∈ Ts) (h2 : Cond.static Lib.Math.min.name ∈ Ts) (h3 : Cond.initialized "java/lang/Math" ∈ Ts) (h4 : Cond.code Lib.Math.min.name Lib.Math.min.code 2 (some .int) ∈ Ts) (hf : 1 ≤ R.frames) (hlo : (st.map fun v => v.category).sum + 13 ≤ R.locals) (hc : k ≤ R.cells) (hs : n ≤ R.slots) (h : jc_J p l e R s m args below meth c Q D cl A nL k n pc' lv (.int (if y < x then y else x) :: st) ws) : jc_J p l e R s m args below meth c Q D cl A nL k n pc lv (.int y :: .int x :: st) ws := by
  subst hp
  exact fun H locs ls hP hD hS hl => va_mmin X.1.1 X.1.2.1 (by rw [X.1.2.2.1]; exact hl.1.symm) X.1.2.2.2.1 (X.1.2.2.2.2 _ h1) (X.1.2.2.2.2 _ h2) (X.1.2.2.2.2 _ h3) (X.1.2.2.2.2 _ h4) hf hlo hc hs d (h H locs ls hP hD hS hl)
theorem jj_mmax (X : jc_X p s m args c cc nL Ts own D cl tys nst A) {x y : Int32} {index : Nat} (d : decode cc pc = .ok (.invokestatic index, 3)) (pc' : Nat) (hp : pc + 3 = pc') (h1 : Cond.methodLink own index Lib.Math.max.name ∈ Ts) (h2 : Cond.static Lib.Math.max.name ∈ Ts) (h3 : Cond.initialized "java/lang/Math" ∈ Ts) (h4 : Cond.code Lib.Math.max.name Lib.Math.max.code 2 (some .int) ∈ Ts) (hf : 1 ≤ R.frames) (hlo : (st.map fun v => v.category).sum + 13 ≤ R.locals) (hc : k ≤ R.cells) (hs : n ≤ R.slots) (h : jc_J p l e R s m args below meth c Q D cl A nL k n pc' lv (.int (if x < y then y else x) :: st) ws) : jc_J p l e R s m args below meth c Q D cl A nL k n pc lv (.int y :: .int x :: st) ws := by
  subst hp
  exact fun H locs ls hP hD hS hl => va_mmax X.1.1 X.1.2.1 (by rw [X.1.2.2.1]; exact hl.1.symm) X.1.2.2.2.1 (X.1.2.2.2.2 _ h1) (X.1.2.2.2.2 _ h2) (X.1.2.2.2.2 _ h3) (X.1.2.2.2.2 _ h4) hf hlo hc hs d (h H locs ls hP hD hS hl)
end JW
end
section
theorem jw_Pm {D : va_G} {cl : List vw_C} {w : va_W} {H : Heap} : va_P D cl w H ↔ ∀ q ∈ w, va_at D cl q H :=
  ⟨fun h q hq => by
    obtain ⟨k, hk⟩ := List.mem_iff_getElem?.mp hq
    exact h k q hk, fun h k q hk => h q (List.mem_of_getElem? hk)⟩
theorem jw_Pl {D : va_G} {cl : List vw_C} {a b : va_W} {H : Heap} (h : va_P D cl (a ++ b) H) : va_P D cl a H := jw_Pm.mpr (fun q hq => jw_Pm.mp h q (List.mem_append_left _ hq))
theorem jw_Pr {D : va_G} {cl : List vw_C} {a b : va_W} {H : Heap} (h : va_P D cl (a ++ b) H) : va_P D cl b H := jw_Pm.mpr (fun q hq => jw_Pm.mp h q (List.mem_append_right _ hq))
theorem jw_lt {a : va_W} {i : Nat} {q : Nat × va_E} (h : a[i]? = some q) : i < a.length := (List.getElem?_eq_some_iff.mp h).1
theorem jw_il {a b : va_W} {i : Nat} {q : Nat × va_E} (h : a[i]? = some q) : (a ++ b)[i]? = some q := by rw [List.getElem?_append_left (jw_lt h)]; exact h
theorem jw_ir {a b : va_W} {i : Nat} {q : Nat × va_E} (h : b[i]? = some q) : (a ++ b)[a.length + i]? = some q := by
  rw [List.getElem?_append_right (Nat.le_add_right _ _), Nat.add_sub_cancel_left]; exact h
theorem jw_Dl {A : Nat → Prop} {a b : va_W} (h : va_D A (a ++ b)) : va_D A a := ⟨fun i j p q h1 h2 e => h.1 i j p q (jw_il h1) (jw_il h2) e, fun k q hk => h.2 k q (jw_il hk)⟩
theorem jw_Dr {A : Nat → Prop} {a b : va_W} (h : va_D A (a ++ b)) : va_D A b := ⟨fun i j p q h1 h2 e => by have := h.1 _ _ p q (jw_ir h1) (jw_ir h2) e; omega, fun k q hk => h.2 _ q (jw_ir hk)⟩
theorem jw_Dx {A : Nat → Prop} {a b : va_W} (h : va_D A (a ++ b)) {i j : Nat} {p q : Nat × va_E} (h1 : a[i]? = some p) (h2 : b[j]? = some q) : p.1 ≠ q.1 := fun e => by
  have := h.1 _ _ p q (jw_il h1) (jw_ir h2) e
  have := jw_lt h1
  omega
theorem jw_nA {A : Nat → Prop} {D : va_G} {cl : List vw_C} {a w : va_W} {H : Heap} (hP : va_P D cl a H) (hx : ∀ (i j : Nat) (p q : Nat × va_E), a[i]? = some p → w[j]? = some q → p.1 ≠ q.1) {i : Nat} {q : Nat × va_E} (h : a[i]? = some q) : ¬ va_A w H.size q.1 := by
  rintro (⟨k, e, hk⟩ | hge)
  · exact hx i k q _ h hk rfl
  · exact absurd (hP i q h).lt (Nat.not_lt.mpr hge)
theorem jw_frame {A : Nat → Prop} {D : va_G} {cl : List vw_C} {w1 w w2 u : va_W} {H H1 : Heap} (hP : va_P D cl (w1 ++ (w ++ w2)) H) (hD : va_D A (w1 ++ (w ++ w2))) (hk : ∀ q : Nat, q < H.size → ¬ va_A w H.size q → H1[q]? = H[q]?) (hF : ∀ q, va_A w H.size q → A q)
    (hP1 : va_P D cl u H1) (hD1 : va_D (va_A w H.size) u) : va_P D cl (w1 ++ (u ++ w2)) H1 ∧ va_D A (w1 ++ (u ++ w2)) := by
  have hPa := jw_Pl hP
  have hPb := jw_Pr (jw_Pr hP)
  have xa : ∀ (i j : Nat) (p q : Nat × va_E), w1[i]? = some p → w[j]? = some q → p.1 ≠ q.1 := fun i j p q h1 h2 => jw_Dx hD h1 (jw_il h2)
  have xb : ∀ (i j : Nat) (p q : Nat × va_E), w2[i]? = some p → w[j]? = some q → p.1 ≠ q.1 := fun i j p q h1 h2 e => jw_Dx (jw_Dr hD) h2 h1 e.symm
  have na : ∀ (i : Nat) (q : Nat × va_E), w1[i]? = some q → ¬ va_A w H.size q.1 := fun i q h => jw_nA (A := A) hPa xa h
  have nb : ∀ (i : Nat) (q : Nat × va_E), w2[i]? = some q → ¬ va_A w H.size q.1 := fun i q h => jw_nA (A := A) hPb xb h
  refine ⟨va_P.app (hPa.kept fun i q h => hk _ (hPa i q h).lt (na i q h)) (va_P.app hP1 (hPb.kept fun i q h => hk _ (hPb i q h).lt (nb i q h))), ?_⟩
  refine va_D.app (jw_Dl hD) (va_D.app (hD1.weaken fun k q _ h => hF _ h) (jw_Dr (jw_Dr hD)) ?_) ?_
  · intro i j p q h1 h2 e
    exact nb j q h2 (e ▸ hD1.2 i p h1)
  · intro i j p q h1 h2 e
    rcases Nat.lt_or_ge j u.length with hj | hj
    · rw [List.getElem?_append_left hj] at h2
      exact na i p h1 (e ▸ hD1.2 j q h2)
    · rw [List.getElem?_append_right hj] at h2
      exact jw_Dx hD h1 (jw_ir (a := w) h2) e
theorem jw_free {A0 : Nat → Prop} {w1 w w2 : va_W} {H0 H : Heap} {locs : List Loc} (hD : va_D A0 (w1 ++ (w ++ w2))) (hS : va_S A0 H0 H locs) (hA : ∀ q, H0.size ≤ q → A0 q) : ∀ q, va_A w H.size q → A0 q := by
  rintro q (⟨k, e, hk⟩ | hge)
  · exact (jw_Dl (jw_Dr hD)).2 k _ hk
  · exact hA q (Nat.le_trans hS.1 hge)
section JC
variable {p : Program} {l : Launch} {e : Env} {R : Room} {s : State} {m : MethodId} {args : Array Value} {below : List Frame} {meth : Method} {c : Code} {Q : State → Prop} {cc : ByteArray} {nL : Nat} {Ts gt : List Cond} {own : String} {D : va_G} {cl : List vw_C} {tys : List (ClassId × FieldType)} {nst : List Cond} {A : Nat → Prop} {k n pc : Nat} {lv : List (Nat × Value)} {st st0 : List Value} {ws : va_W}
theorem jj_afterI {H : Heap} {locs : List Loc} {ls : Array Slot} {mc ms : Nat} {post : Int32 → va_W → Prop} {w1 w w2 : va_W} {a : Array Value} (X : jc_X p s m args c cc nL Ts own D cl tys nst A) (hP : va_P D cl (w1 ++ (w ++ w2)) H) (hD : va_D A (w1 ++ (w ++ w2))) (hS : va_S A s.heap H locs) (hl : lv_has ls nL lv)
    (hr : va_Run p l e R s m args below meth c H locs k n mc ms (F0 m pc ls st0) st (va_Qi post (jc_B D cl tys (va_A w H.size)) (va_A w H.size) a) (va_A w H.size))
    (h : ∀ (r : Int32) (u : va_W), post r u → jc_J p l e R s m args below meth c Q D cl A nL (k + mc) (n + ms) (pc + 3) lv (.int r :: st) (w1 ++ (u ++ w2))) : W p l e R s m args below meth c H locs k n Q (F0 m pc ls st0) := by
  have hF := jw_free hD hS X.2.2.1
  refine va_calli hr hS (fun q _ h => hF q h) hF (fun r u t H1 locs1 ht hvm hw hB hz1 hk1 hS1 => ?_)
  obtain ⟨hP1, hK1, hD1⟩ := hB
  rw [ht] at hP1
  obtain ⟨hP2, hD2⟩ := jw_frame hP hD hk1 hF hP1 hD1
  exact h r u hw H1 locs1 ls hP2 hD2 hS1 hl
theorem jj_afterV {H : Heap} {locs : List Loc} {ls : Array Slot} {mc ms : Nat} {post : va_W → Prop} {w1 w w2 : va_W} {a : Array Value} (X : jc_X p s m args c cc nL Ts own D cl tys nst A) (hP : va_P D cl (w1 ++ (w ++ w2)) H) (hD : va_D A (w1 ++ (w ++ w2))) (hS : va_S A s.heap H locs) (hl : lv_has ls nL lv)
    (hr : va_Run p l e R s m args below meth c H locs k n mc ms (F0 m pc ls st0) st (va_Qv post (jc_B D cl tys (va_A w H.size)) (va_A w H.size) a) (va_A w H.size))
    (h : ∀ (u : va_W), post u → jc_J p l e R s m args below meth c Q D cl A nL (k + mc) (n + ms) (pc + 3) lv st (w1 ++ (u ++ w2))) : W p l e R s m args below meth c H locs k n Q (F0 m pc ls st0) := by
  have hF := jw_free hD hS X.2.2.1
  refine va_callv hr hS (fun q _ h => hF q h) hF (fun u t H1 locs1 ht hvm hw hB hz1 hk1 hS1 => ?_)
  obtain ⟨hP1, hK1, hD1⟩ := hB
  rw [ht] at hP1
  obtain ⟨hP2, hD2⟩ := jw_frame hP hD hk1 hF hP1 hD1
  exact h u hw H1 locs1 ls hP2 hD2 hS1 hl
theorem jj_callV {y : MethodName} {bytes : ByteArray} {maxL index : Nat} {ty : FieldType} {rm : Room} {b : Nat} {As : List Value} {post : Int32 → va_W → Prop} {C : String} {T : u_T} {N ci : Nat} {fs : List Value} {w1 w w2 : va_W} (X : jc_X p s m args c cc nL Ts own D cl tys nst A) (d : decode cc pc = .ok (.invokevirtual index, 3)) (pc' : Nat) (hp : pc + 3 = pc') (M : mt_I l D cl tys nst y (Cond.code y bytes maxL (some ty) :: gt) rm (.ref b :: As) w post) (g : GoodIn Ts (wsV own index C y (Cond.code y bytes maxL (some ty) :: gt))) (hd : y.cls = C ∧ y.cls ≠ "java/lang/invoke/MethodHandle" ∧ y.cls ≠ "java/lang/invoke/VarHandle" ∧ (parseMethodDescriptor y.desc).map (fun d => d.parameters.length) = some As.length) (hR : rm.frames + 1 ≤ R.frames ∧ 8 + (maxL + 11) + rm.locals ≤ R.locals) (hws : ws = w1 ++ (w ++ w2)) (q0 : Nat) (he : w[q0]? = some (b, .inr (ci, fs))) (hc : cl[ci]? = some (C, T, N)) (hst : st0 = As.reverse ++ .ref b :: st) (hW : (st.map fun v => v.category).sum ≤ 8) (hf : k + rm.cells ≤ R.cells ∧ n + rm.slots ≤ R.slots) (h : ∀ (r : Int32) (u : va_W), post r u → jc_J p l e R s m args below meth c Q D cl A nL (k + rm.cells) (n + rm.slots) pc' lv (.int r :: st) (w1 ++ (u ++ w2))) : jc_J p l e R s m args below meth c Q D cl A nL k n pc lv st0 ws := by
  subst hp; subst hws
  intro H locs ls hP hD hS hl
  have hPw := jw_Pl (jw_Pr hP)
  have hDw : va_D (fun _ => True) w := (jw_Dl (jw_Dr hD)).weaken (fun _ _ _ _ => trivial)
  exact jj_afterI X hP hD hS hl (va_runV (As := As) (rest := st) X.1 (M H.size) (cwV As.length X.1.2.2.2.2 g rfl rfl rfl hd hR) ⟨jc_P_blind, va_recv X.2.1 hPw hc he, fun U hU hW => ⟨rfl, by rw [hU], by rw [hU]; exact hPw, va_K.moved hW.alike X.2.1, hDw, jc_N_warm hW X.2.2.2⟩⟩ rfl rfl hl.1 hst (lv_room hW) d hf) h
theorem jj_callV0 {y : MethodName} {bytes : ByteArray} {maxL index : Nat} {ty : FieldType} {rm : Room} {b : Nat} {As : List Value} {post : Int32 → va_W → Prop} {C : String} {T : u_T} {N ci : Nat} {fs : List Value} {w : va_W} (X : jc_X p s m args c cc nL Ts own D cl tys nst A) (d : decode cc pc = .ok (.invokevirtual index, 3)) (pc' : Nat) (hp : pc + 3 = pc') (M : mt_I l D cl tys nst y (Cond.code y bytes maxL (some ty) :: gt) rm (.ref b :: As) w post) (g : GoodIn Ts (wsV own index C y (Cond.code y bytes maxL (some ty) :: gt))) (hd : y.cls = C ∧ y.cls ≠ "java/lang/invoke/MethodHandle" ∧ y.cls ≠ "java/lang/invoke/VarHandle" ∧ (parseMethodDescriptor y.desc).map (fun d => d.parameters.length) = some As.length) (hR : rm.frames + 1 ≤ R.frames ∧ 8 + (maxL + 11) + rm.locals ≤ R.locals) (hws : ws = w) (q0 : Nat) (he : w[q0]? = some (b, .inr (ci, fs))) (hc : cl[ci]? = some (C, T, N)) (hst : st0 = As.reverse ++ .ref b :: st) (hW : (st.map fun v => v.category).sum ≤ 8) (hrm : rm.cells = 0 ∧ rm.slots = 0) (hk : k ≤ R.cells ∧ n ≤ R.slots) (h : ∀ (r : Int32) (u : va_W), post r u → jc_J p l e R s m args below meth c Q D cl A nL k n pc' lv (.int r :: st) u) : jc_J p l e R s m args below meth c Q D cl A nL k n pc lv st0 ws := by
  refine jj_callV (w1 := []) (w2 := []) X d pc' hp M g hd hR (by simpa using hws) q0 he hc hst hW (by rw [hrm.1, hrm.2]; exact hk) (fun r u hu => ?_)
  rw [hrm.1, hrm.2]
  simpa using h r u hu
theorem jj_callS {y : MethodName} {bytes : ByteArray} {maxL index : Nat} {ty : FieldType} {rm : Room} {As : List Value} {post : Int32 → va_W → Prop} {w1 w w2 : va_W} (X : jc_X p s m args c cc nL Ts own D cl tys nst A) (d : decode cc pc = .ok (.invokestatic index, 3)) (pc' : Nat) (hp : pc + 3 = pc') (M : mt_I l D cl tys nst y (Cond.code y bytes maxL (some ty) :: gt) rm As w post) (g : GoodIn Ts (wsS own index y (Cond.code y bytes maxL (some ty) :: gt))) (hd : y.cls = own ∧ y.cls ≠ "java/lang/invoke/MethodHandle" ∧ y.cls ≠ "java/lang/invoke/VarHandle" ∧ (parseMethodDescriptor y.desc).map (fun d => d.parameters.length) = some As.length) (hR : rm.frames + 1 ≤ R.frames ∧ 8 + (maxL + 11) + rm.locals ≤ R.locals) (hws : ws = w1 ++ (w ++ w2)) (hst : st0 = As.reverse ++ st) (hW : (st.map fun v => v.category).sum ≤ 8) (hf : k + rm.cells ≤ R.cells ∧ n + rm.slots ≤ R.slots) (h : ∀ (r : Int32) (u : va_W), post r u → jc_J p l e R s m args below meth c Q D cl A nL (k + rm.cells) (n + rm.slots) pc' lv (.int r :: st) (w1 ++ (u ++ w2))) : jc_J p l e R s m args below meth c Q D cl A nL k n pc lv st0 ws := by
  subst hp; subst hws
  intro H locs ls hP hD hS hl
  have hPw := jw_Pl (jw_Pr hP)
  have hDw : va_D (fun _ => True) w := (jw_Dl (jw_Dr hD)).weaken (fun _ _ _ _ => trivial)
  exact jj_afterI X hP hD hS hl (va_runS (As := As) (rest := st) X.1 (M H.size) (cwS As.length X.1.2.2.2.2 g rfl rfl rfl hd hR) ⟨jc_P_blind, fun U hU hW => ⟨rfl, by rw [hU], by rw [hU]; exact hPw, va_K.moved hW.alike X.2.1, hDw, jc_N_warm hW X.2.2.2⟩⟩ rfl rfl hl.1 hst (lv_room hW) d hf) h
theorem jj_callS0 {y : MethodName} {bytes : ByteArray} {maxL index : Nat} {ty : FieldType} {rm : Room} {As : List Value} {post : Int32 → va_W → Prop} {w : va_W} (X : jc_X p s m args c cc nL Ts own D cl tys nst A) (d : decode cc pc = .ok (.invokestatic index, 3)) (pc' : Nat) (hp : pc + 3 = pc') (M : mt_I l D cl tys nst y (Cond.code y bytes maxL (some ty) :: gt) rm As w post) (g : GoodIn Ts (wsS own index y (Cond.code y bytes maxL (some ty) :: gt))) (hd : y.cls = own ∧ y.cls ≠ "java/lang/invoke/MethodHandle" ∧ y.cls ≠ "java/lang/invoke/VarHandle" ∧ (parseMethodDescriptor y.desc).map (fun d => d.parameters.length) = some As.length) (hR : rm.frames + 1 ≤ R.frames ∧ 8 + (maxL + 11) + rm.locals ≤ R.locals) (hws : ws = w) (hst : st0 = As.reverse ++ st) (hW : (st.map fun v => v.category).sum ≤ 8) (hrm : rm.cells = 0 ∧ rm.slots = 0) (hk : k ≤ R.cells ∧ n ≤ R.slots) (h : ∀ (r : Int32) (u : va_W), post r u → jc_J p l e R s m args below meth c Q D cl A nL k n pc' lv (.int r :: st) u) : jc_J p l e R s m args below meth c Q D cl A nL k n pc lv st0 ws := by
  refine jj_callS (w1 := []) (w2 := []) X d pc' hp M g hd hR (by simpa using hws) hst hW (by rw [hrm.1, hrm.2]; exact hk) (fun r u hu => ?_)
  rw [hrm.1, hrm.2]
  simpa using h r u hu
theorem jj_callVN {y : MethodName} {bytes : ByteArray} {maxL index : Nat} {ty : FieldType} {rm : Room} {b : Nat} {As : List Value} {post : Int32 → va_W → Prop} {C : String} {T : u_T} {N ci : Nat} {fs : List Value} {w1 w w2 : va_W} (X : jc_X p s m args c cc nL Ts own D cl tys nst A) (d : decode cc pc = .ok (.invokevirtual index, 3)) (pc' : Nat) (hp : pc + 3 = pc') (M : mt_I l D cl tys nst y (Cond.code y bytes maxL (some ty) :: gt) rm (.ref b :: As) w post) (g : GoodIn Ts (Cond.code y bytes maxL (some ty) :: gt)) {host : String} (hlk : Cond.methodLinkNest own index y host ∈ nst) (hini : Cond.initialized y.cls ∈ Ts) (hinm : Cond.instanceMethod y ∈ Ts) (hsel : Cond.selects C y y ∈ Ts) (hd : y.cls ≠ "java/lang/invoke/MethodHandle" ∧ y.cls ≠ "java/lang/invoke/VarHandle" ∧ (parseMethodDescriptor y.desc).map (fun d => d.parameters.length) = some As.length) (hR : rm.frames + 1 ≤ R.frames ∧ 8 + (maxL + 11) + rm.locals ≤ R.locals) (hws : ws = w1 ++ (w ++ w2)) (q0 : Nat) (he : w[q0]? = some (b, .inr (ci, fs))) (hc : cl[ci]? = some (C, T, N)) (hst : st0 = As.reverse ++ .ref b :: st) (hW : (st.map fun v => v.category).sum ≤ 8) (hf : k + rm.cells ≤ R.cells ∧ n + rm.slots ≤ R.slots) (h : ∀ (r : Int32) (u : va_W), post r u → jc_J p l e R s m args below meth c Q D cl A nL (k + rm.cells) (n + rm.slots) pc' lv (.int r :: st) (w1 ++ (u ++ w2))) : jc_J p l e R s m args below meth c Q D cl A nL k n pc lv st0 ws := by
  subst hp; subst hws
  intro H locs ls hP hD hS hl
  have hPw := jw_Pl (jw_Pr hP)
  have hDw : va_D (fun _ => True) w := (jw_Dl (jw_Dr hD)).weaken (fun _ _ _ _ => trivial)
  exact jj_afterI X hP hD hS hl (va_runVN (As := As) (rest := st) X.1 (M H.size) (⟨va_cnB As.length X.1.2.2.2.2 g rfl rfl rfl (X.2.2.2 _ hlk).2 (X.1.2.2.2.2 _ hini) hd hR, X.1.2.2.2.2 _ hinm, X.1.2.2.2.2 _ hsel⟩) ⟨jc_P_blind, va_recv X.2.1 hPw hc he, fun U hU hW => ⟨rfl, by rw [hU], by rw [hU]; exact hPw, va_K.moved hW.alike X.2.1, hDw, jc_N_warm hW X.2.2.2⟩⟩ rfl rfl hl.1 hst (lv_room hW) d hf) h
theorem jj_callVN0 {y : MethodName} {bytes : ByteArray} {maxL index : Nat} {ty : FieldType} {rm : Room} {b : Nat} {As : List Value} {post : Int32 → va_W → Prop} {C : String} {T : u_T} {N ci : Nat} {fs : List Value} {w : va_W} (X : jc_X p s m args c cc nL Ts own D cl tys nst A) (d : decode cc pc = .ok (.invokevirtual index, 3)) (pc' : Nat) (hp : pc + 3 = pc') (M : mt_I l D cl tys nst y (Cond.code y bytes maxL (some ty) :: gt) rm (.ref b :: As) w post) (g : GoodIn Ts (Cond.code y bytes maxL (some ty) :: gt)) {host : String} (hlk : Cond.methodLinkNest own index y host ∈ nst) (hini : Cond.initialized y.cls ∈ Ts) (hinm : Cond.instanceMethod y ∈ Ts) (hsel : Cond.selects C y y ∈ Ts) (hd : y.cls ≠ "java/lang/invoke/MethodHandle" ∧ y.cls ≠ "java/lang/invoke/VarHandle" ∧ (parseMethodDescriptor y.desc).map (fun d => d.parameters.length) = some As.length) (hR : rm.frames + 1 ≤ R.frames ∧ 8 + (maxL + 11) + rm.locals ≤ R.locals) (hws : ws = w) (q0 : Nat) (he : w[q0]? = some (b, .inr (ci, fs))) (hc : cl[ci]? = some (C, T, N)) (hst : st0 = As.reverse ++ .ref b :: st) (hW : (st.map fun v => v.category).sum ≤ 8) (hrm : rm.cells = 0 ∧ rm.slots = 0) (hk : k ≤ R.cells ∧ n ≤ R.slots) (h : ∀ (r : Int32) (u : va_W), post r u → jc_J p l e R s m args below meth c Q D cl A nL k n pc' lv (.int r :: st) u) : jc_J p l e R s m args below meth c Q D cl A nL k n pc lv st0 ws := by
  refine jj_callVN (w1 := []) (w2 := []) X d pc' hp M g hlk hini hinm hsel hd hR (by simpa using hws) q0 he hc hst hW (by rw [hrm.1, hrm.2]; exact hk) (fun r u hu => ?_)
  rw [hrm.1, hrm.2]
  simpa using h r u hu
theorem jj_callSN {y : MethodName} {bytes : ByteArray} {maxL index : Nat} {ty : FieldType} {rm : Room} {As : List Value} {post : Int32 → va_W → Prop} {w1 w w2 : va_W} (X : jc_X p s m args c cc nL Ts own D cl tys nst A) (d : decode cc pc = .ok (.invokestatic index, 3)) (pc' : Nat) (hp : pc + 3 = pc') (M : mt_I l D cl tys nst y (Cond.code y bytes maxL (some ty) :: gt) rm As w post) (g : GoodIn Ts (Cond.code y bytes maxL (some ty) :: gt)) {host : String} (hlk : Cond.methodLinkNest own index y host ∈ nst) (hini : Cond.initialized y.cls ∈ Ts) (hsm : Cond.static y ∈ Ts) (hd : y.cls ≠ "java/lang/invoke/MethodHandle" ∧ y.cls ≠ "java/lang/invoke/VarHandle" ∧ (parseMethodDescriptor y.desc).map (fun d => d.parameters.length) = some As.length) (hR : rm.frames + 1 ≤ R.frames ∧ 8 + (maxL + 11) + rm.locals ≤ R.locals) (hws : ws = w1 ++ (w ++ w2)) (hst : st0 = As.reverse ++ st) (hW : (st.map fun v => v.category).sum ≤ 8) (hf : k + rm.cells ≤ R.cells ∧ n + rm.slots ≤ R.slots) (h : ∀ (r : Int32) (u : va_W), post r u → jc_J p l e R s m args below meth c Q D cl A nL (k + rm.cells) (n + rm.slots) pc' lv (.int r :: st) (w1 ++ (u ++ w2))) : jc_J p l e R s m args below meth c Q D cl A nL k n pc lv st0 ws := by
  subst hp; subst hws
  intro H locs ls hP hD hS hl
  have hPw := jw_Pl (jw_Pr hP)
  have hDw : va_D (fun _ => True) w := (jw_Dl (jw_Dr hD)).weaken (fun _ _ _ _ => trivial)
  exact jj_afterI X hP hD hS hl (va_runSN (As := As) (rest := st) X.1 (M H.size) (⟨va_cnB As.length X.1.2.2.2.2 g rfl rfl rfl (X.2.2.2 _ hlk).2 (X.1.2.2.2.2 _ hini) hd hR, X.1.2.2.2.2 _ hsm, trivial⟩) ⟨jc_P_blind, fun U hU hW => ⟨rfl, by rw [hU], by rw [hU]; exact hPw, va_K.moved hW.alike X.2.1, hDw, jc_N_warm hW X.2.2.2⟩⟩ rfl rfl hl.1 hst (lv_room hW) d hf) h
theorem jj_callSN0 {y : MethodName} {bytes : ByteArray} {maxL index : Nat} {ty : FieldType} {rm : Room} {As : List Value} {post : Int32 → va_W → Prop} {w : va_W} (X : jc_X p s m args c cc nL Ts own D cl tys nst A) (d : decode cc pc = .ok (.invokestatic index, 3)) (pc' : Nat) (hp : pc + 3 = pc') (M : mt_I l D cl tys nst y (Cond.code y bytes maxL (some ty) :: gt) rm As w post) (g : GoodIn Ts (Cond.code y bytes maxL (some ty) :: gt)) {host : String} (hlk : Cond.methodLinkNest own index y host ∈ nst) (hini : Cond.initialized y.cls ∈ Ts) (hsm : Cond.static y ∈ Ts) (hd : y.cls ≠ "java/lang/invoke/MethodHandle" ∧ y.cls ≠ "java/lang/invoke/VarHandle" ∧ (parseMethodDescriptor y.desc).map (fun d => d.parameters.length) = some As.length) (hR : rm.frames + 1 ≤ R.frames ∧ 8 + (maxL + 11) + rm.locals ≤ R.locals) (hws : ws = w) (hst : st0 = As.reverse ++ st) (hW : (st.map fun v => v.category).sum ≤ 8) (hrm : rm.cells = 0 ∧ rm.slots = 0) (hk : k ≤ R.cells ∧ n ≤ R.slots) (h : ∀ (r : Int32) (u : va_W), post r u → jc_J p l e R s m args below meth c Q D cl A nL k n pc' lv (.int r :: st) u) : jc_J p l e R s m args below meth c Q D cl A nL k n pc lv st0 ws := by
  refine jj_callSN (w1 := []) (w2 := []) X d pc' hp M g hlk hini hsm hd hR (by simpa using hws) hst hW (by rw [hrm.1, hrm.2]; exact hk) (fun r u hu => ?_)
  rw [hrm.1, hrm.2]
  simpa using h r u hu
theorem jj_callVv {y : MethodName} {bytes : ByteArray} {maxL index : Nat} {rm : Room} {b : Nat} {As : List Value} {post : va_W → Prop} {C : String} {T : u_T} {N ci : Nat} {fs : List Value} {w1 w w2 : va_W} (X : jc_X p s m args c cc nL Ts own D cl tys nst A) (d : decode cc pc = .ok (.invokevirtual index, 3)) (pc' : Nat) (hp : pc + 3 = pc') (M : mt_V l D cl tys nst y (Cond.code y bytes maxL none :: gt) rm (.ref b :: As) w post) (g : GoodIn Ts (wsV own index C y (Cond.code y bytes maxL none :: gt))) (hd : y.cls = C ∧ y.cls ≠ "java/lang/invoke/MethodHandle" ∧ y.cls ≠ "java/lang/invoke/VarHandle" ∧ (parseMethodDescriptor y.desc).map (fun d => d.parameters.length) = some As.length) (hR : rm.frames + 1 ≤ R.frames ∧ 8 + (maxL + 11) + rm.locals ≤ R.locals) (hws : ws = w1 ++ (w ++ w2)) (q0 : Nat) (he : w[q0]? = some (b, .inr (ci, fs))) (hc : cl[ci]? = some (C, T, N)) (hst : st0 = As.reverse ++ .ref b :: st) (hW : (st.map fun v => v.category).sum ≤ 8) (hf : k + rm.cells ≤ R.cells ∧ n + rm.slots ≤ R.slots) (h : ∀ (u : va_W), post u → jc_J p l e R s m args below meth c Q D cl A nL (k + rm.cells) (n + rm.slots) pc' lv (st) (w1 ++ (u ++ w2))) : jc_J p l e R s m args below meth c Q D cl A nL k n pc lv st0 ws := by
  subst hp; subst hws
  intro H locs ls hP hD hS hl
  have hPw := jw_Pl (jw_Pr hP)
  have hDw : va_D (fun _ => True) w := (jw_Dl (jw_Dr hD)).weaken (fun _ _ _ _ => trivial)
  exact jj_afterV X hP hD hS hl (va_runV (As := As) (rest := st) X.1 (M H.size) (cwV As.length X.1.2.2.2.2 g rfl rfl rfl hd hR) ⟨jc_P_blind, va_recv X.2.1 hPw hc he, fun U hU hW => ⟨rfl, by rw [hU], by rw [hU]; exact hPw, va_K.moved hW.alike X.2.1, hDw, jc_N_warm hW X.2.2.2⟩⟩ rfl rfl hl.1 hst (lv_room hW) d hf) h
theorem jj_callVv0 {y : MethodName} {bytes : ByteArray} {maxL index : Nat} {rm : Room} {b : Nat} {As : List Value} {post : va_W → Prop} {C : String} {T : u_T} {N ci : Nat} {fs : List Value} {w : va_W} (X : jc_X p s m args c cc nL Ts own D cl tys nst A) (d : decode cc pc = .ok (.invokevirtual index, 3)) (pc' : Nat) (hp : pc + 3 = pc') (M : mt_V l D cl tys nst y (Cond.code y bytes maxL none :: gt) rm (.ref b :: As) w post) (g : GoodIn Ts (wsV own index C y (Cond.code y bytes maxL none :: gt))) (hd : y.cls = C ∧ y.cls ≠ "java/lang/invoke/MethodHandle" ∧ y.cls ≠ "java/lang/invoke/VarHandle" ∧ (parseMethodDescriptor y.desc).map (fun d => d.parameters.length) = some As.length) (hR : rm.frames + 1 ≤ R.frames ∧ 8 + (maxL + 11) + rm.locals ≤ R.locals) (hws : ws = w) (q0 : Nat) (he : w[q0]? = some (b, .inr (ci, fs))) (hc : cl[ci]? = some (C, T, N)) (hst : st0 = As.reverse ++ .ref b :: st) (hW : (st.map fun v => v.category).sum ≤ 8) (hrm : rm.cells = 0 ∧ rm.slots = 0) (hk : k ≤ R.cells ∧ n ≤ R.slots) (h : ∀ (u : va_W), post u → jc_J p l e R s m args below meth c Q D cl A nL k n pc' lv (st) u) : jc_J p l e R s m args below meth c Q D cl A nL k n pc lv st0 ws := by
  refine jj_callVv (w1 := []) (w2 := []) X d pc' hp M g hd hR (by simpa using hws) q0 he hc hst hW (by rw [hrm.1, hrm.2]; exact hk) (fun u hu => ?_)
  rw [hrm.1, hrm.2]
  simpa using h u hu
theorem jj_callSv {y : MethodName} {bytes : ByteArray} {maxL index : Nat} {rm : Room} {As : List Value} {post : va_W → Prop} {w1 w w2 : va_W} (X : jc_X p s m args c cc nL Ts own D cl tys nst A) (d : decode cc pc = .ok (.invokestatic index, 3)) (pc' : Nat) (hp : pc + 3 = pc') (M : mt_V l D cl tys nst y (Cond.code y bytes maxL none :: gt) rm As w post) (g : GoodIn Ts (wsS own index y (Cond.code y bytes maxL none :: gt))) (hd : y.cls = own ∧ y.cls ≠ "java/lang/invoke/MethodHandle" ∧ y.cls ≠ "java/lang/invoke/VarHandle" ∧ (parseMethodDescriptor y.desc).map (fun d => d.parameters.length) = some As.length) (hR : rm.frames + 1 ≤ R.frames ∧ 8 + (maxL + 11) + rm.locals ≤ R.locals) (hws : ws = w1 ++ (w ++ w2)) (hst : st0 = As.reverse ++ st) (hW : (st.map fun v => v.category).sum ≤ 8) (hf : k + rm.cells ≤ R.cells ∧ n + rm.slots ≤ R.slots) (h : ∀ (u : va_W), post u → jc_J p l e R s m args below meth c Q D cl A nL (k + rm.cells) (n + rm.slots) pc' lv (st) (w1 ++ (u ++ w2))) : jc_J p l e R s m args below meth c Q D cl A nL k n pc lv st0 ws := by
  subst hp; subst hws
  intro H locs ls hP hD hS hl
  have hPw := jw_Pl (jw_Pr hP)
  have hDw : va_D (fun _ => True) w := (jw_Dl (jw_Dr hD)).weaken (fun _ _ _ _ => trivial)
  exact jj_afterV X hP hD hS hl (va_runS (As := As) (rest := st) X.1 (M H.size) (cwS As.length X.1.2.2.2.2 g rfl rfl rfl hd hR) ⟨jc_P_blind, fun U hU hW => ⟨rfl, by rw [hU], by rw [hU]; exact hPw, va_K.moved hW.alike X.2.1, hDw, jc_N_warm hW X.2.2.2⟩⟩ rfl rfl hl.1 hst (lv_room hW) d hf) h
theorem jj_callSv0 {y : MethodName} {bytes : ByteArray} {maxL index : Nat} {rm : Room} {As : List Value} {post : va_W → Prop} {w : va_W} (X : jc_X p s m args c cc nL Ts own D cl tys nst A) (d : decode cc pc = .ok (.invokestatic index, 3)) (pc' : Nat) (hp : pc + 3 = pc') (M : mt_V l D cl tys nst y (Cond.code y bytes maxL none :: gt) rm As w post) (g : GoodIn Ts (wsS own index y (Cond.code y bytes maxL none :: gt))) (hd : y.cls = own ∧ y.cls ≠ "java/lang/invoke/MethodHandle" ∧ y.cls ≠ "java/lang/invoke/VarHandle" ∧ (parseMethodDescriptor y.desc).map (fun d => d.parameters.length) = some As.length) (hR : rm.frames + 1 ≤ R.frames ∧ 8 + (maxL + 11) + rm.locals ≤ R.locals) (hws : ws = w) (hst : st0 = As.reverse ++ st) (hW : (st.map fun v => v.category).sum ≤ 8) (hrm : rm.cells = 0 ∧ rm.slots = 0) (hk : k ≤ R.cells ∧ n ≤ R.slots) (h : ∀ (u : va_W), post u → jc_J p l e R s m args below meth c Q D cl A nL k n pc' lv (st) u) : jc_J p l e R s m args below meth c Q D cl A nL k n pc lv st0 ws := by
  refine jj_callSv (w1 := []) (w2 := []) X d pc' hp M g hd hR (by simpa using hws) hst hW (by rw [hrm.1, hrm.2]; exact hk) (fun u hu => ?_)
  rw [hrm.1, hrm.2]
  simpa using h u hu
theorem jj_callVNv {y : MethodName} {bytes : ByteArray} {maxL index : Nat} {rm : Room} {b : Nat} {As : List Value} {post : va_W → Prop} {C : String} {T : u_T} {N ci : Nat} {fs : List Value} {w1 w w2 : va_W} (X : jc_X p s m args c cc nL Ts own D cl tys nst A) (d : decode cc pc = .ok (.invokevirtual index, 3)) (pc' : Nat) (hp : pc + 3 = pc') (M : mt_V l D cl tys nst y (Cond.code y bytes maxL none :: gt) rm (.ref b :: As) w post) (g : GoodIn Ts (Cond.code y bytes maxL none :: gt)) {host : String} (hlk : Cond.methodLinkNest own index y host ∈ nst) (hini : Cond.initialized y.cls ∈ Ts) (hinm : Cond.instanceMethod y ∈ Ts) (hsel : Cond.selects C y y ∈ Ts) (hd : y.cls ≠ "java/lang/invoke/MethodHandle" ∧ y.cls ≠ "java/lang/invoke/VarHandle" ∧ (parseMethodDescriptor y.desc).map (fun d => d.parameters.length) = some As.length) (hR : rm.frames + 1 ≤ R.frames ∧ 8 + (maxL + 11) + rm.locals ≤ R.locals) (hws : ws = w1 ++ (w ++ w2)) (q0 : Nat) (he : w[q0]? = some (b, .inr (ci, fs))) (hc : cl[ci]? = some (C, T, N)) (hst : st0 = As.reverse ++ .ref b :: st) (hW : (st.map fun v => v.category).sum ≤ 8) (hf : k + rm.cells ≤ R.cells ∧ n + rm.slots ≤ R.slots) (h : ∀ (u : va_W), post u → jc_J p l e R s m args below meth c Q D cl A nL (k + rm.cells) (n + rm.slots) pc' lv (st) (w1 ++ (u ++ w2))) : jc_J p l e R s m args below meth c Q D cl A nL k n pc lv st0 ws := by
  subst hp; subst hws
  intro H locs ls hP hD hS hl
  have hPw := jw_Pl (jw_Pr hP)
  have hDw : va_D (fun _ => True) w := (jw_Dl (jw_Dr hD)).weaken (fun _ _ _ _ => trivial)
  exact jj_afterV X hP hD hS hl (va_runVN (As := As) (rest := st) X.1 (M H.size) (⟨va_cnB As.length X.1.2.2.2.2 g rfl rfl rfl (X.2.2.2 _ hlk).2 (X.1.2.2.2.2 _ hini) hd hR, X.1.2.2.2.2 _ hinm, X.1.2.2.2.2 _ hsel⟩) ⟨jc_P_blind, va_recv X.2.1 hPw hc he, fun U hU hW => ⟨rfl, by rw [hU], by rw [hU]; exact hPw, va_K.moved hW.alike X.2.1, hDw, jc_N_warm hW X.2.2.2⟩⟩ rfl rfl hl.1 hst (lv_room hW) d hf) h
theorem jj_callVNv0 {y : MethodName} {bytes : ByteArray} {maxL index : Nat} {rm : Room} {b : Nat} {As : List Value} {post : va_W → Prop} {C : String} {T : u_T} {N ci : Nat} {fs : List Value} {w : va_W} (X : jc_X p s m args c cc nL Ts own D cl tys nst A) (d : decode cc pc = .ok (.invokevirtual index, 3)) (pc' : Nat) (hp : pc + 3 = pc') (M : mt_V l D cl tys nst y (Cond.code y bytes maxL none :: gt) rm (.ref b :: As) w post) (g : GoodIn Ts (Cond.code y bytes maxL none :: gt)) {host : String} (hlk : Cond.methodLinkNest own index y host ∈ nst) (hini : Cond.initialized y.cls ∈ Ts) (hinm : Cond.instanceMethod y ∈ Ts) (hsel : Cond.selects C y y ∈ Ts) (hd : y.cls ≠ "java/lang/invoke/MethodHandle" ∧ y.cls ≠ "java/lang/invoke/VarHandle" ∧ (parseMethodDescriptor y.desc).map (fun d => d.parameters.length) = some As.length) (hR : rm.frames + 1 ≤ R.frames ∧ 8 + (maxL + 11) + rm.locals ≤ R.locals) (hws : ws = w) (q0 : Nat) (he : w[q0]? = some (b, .inr (ci, fs))) (hc : cl[ci]? = some (C, T, N)) (hst : st0 = As.reverse ++ .ref b :: st) (hW : (st.map fun v => v.category).sum ≤ 8) (hrm : rm.cells = 0 ∧ rm.slots = 0) (hk : k ≤ R.cells ∧ n ≤ R.slots) (h : ∀ (u : va_W), post u → jc_J p l e R s m args below meth c Q D cl A nL k n pc' lv (st) u) : jc_J p l e R s m args below meth c Q D cl A nL k n pc lv st0 ws := by
  refine jj_callVNv (w1 := []) (w2 := []) X d pc' hp M g hlk hini hinm hsel hd hR (by simpa using hws) q0 he hc hst hW (by rw [hrm.1, hrm.2]; exact hk) (fun u hu => ?_)
  rw [hrm.1, hrm.2]
  simpa using h u hu
theorem jj_callSNv {y : MethodName} {bytes : ByteArray} {maxL index : Nat} {rm : Room} {As : List Value} {post : va_W → Prop} {w1 w w2 : va_W} (X : jc_X p s m args c cc nL Ts own D cl tys nst A) (d : decode cc pc = .ok (.invokestatic index, 3)) (pc' : Nat) (hp : pc + 3 = pc') (M : mt_V l D cl tys nst y (Cond.code y bytes maxL none :: gt) rm As w post) (g : GoodIn Ts (Cond.code y bytes maxL none :: gt)) {host : String} (hlk : Cond.methodLinkNest own index y host ∈ nst) (hini : Cond.initialized y.cls ∈ Ts) (hsm : Cond.static y ∈ Ts) (hd : y.cls ≠ "java/lang/invoke/MethodHandle" ∧ y.cls ≠ "java/lang/invoke/VarHandle" ∧ (parseMethodDescriptor y.desc).map (fun d => d.parameters.length) = some As.length) (hR : rm.frames + 1 ≤ R.frames ∧ 8 + (maxL + 11) + rm.locals ≤ R.locals) (hws : ws = w1 ++ (w ++ w2)) (hst : st0 = As.reverse ++ st) (hW : (st.map fun v => v.category).sum ≤ 8) (hf : k + rm.cells ≤ R.cells ∧ n + rm.slots ≤ R.slots) (h : ∀ (u : va_W), post u → jc_J p l e R s m args below meth c Q D cl A nL (k + rm.cells) (n + rm.slots) pc' lv (st) (w1 ++ (u ++ w2))) : jc_J p l e R s m args below meth c Q D cl A nL k n pc lv st0 ws := by
  subst hp; subst hws
  intro H locs ls hP hD hS hl
  have hPw := jw_Pl (jw_Pr hP)
  have hDw : va_D (fun _ => True) w := (jw_Dl (jw_Dr hD)).weaken (fun _ _ _ _ => trivial)
  exact jj_afterV X hP hD hS hl (va_runSN (As := As) (rest := st) X.1 (M H.size) (⟨va_cnB As.length X.1.2.2.2.2 g rfl rfl rfl (X.2.2.2 _ hlk).2 (X.1.2.2.2.2 _ hini) hd hR, X.1.2.2.2.2 _ hsm, trivial⟩) ⟨jc_P_blind, fun U hU hW => ⟨rfl, by rw [hU], by rw [hU]; exact hPw, va_K.moved hW.alike X.2.1, hDw, jc_N_warm hW X.2.2.2⟩⟩ rfl rfl hl.1 hst (lv_room hW) d hf) h
theorem jj_callSNv0 {y : MethodName} {bytes : ByteArray} {maxL index : Nat} {rm : Room} {As : List Value} {post : va_W → Prop} {w : va_W} (X : jc_X p s m args c cc nL Ts own D cl tys nst A) (d : decode cc pc = .ok (.invokestatic index, 3)) (pc' : Nat) (hp : pc + 3 = pc') (M : mt_V l D cl tys nst y (Cond.code y bytes maxL none :: gt) rm As w post) (g : GoodIn Ts (Cond.code y bytes maxL none :: gt)) {host : String} (hlk : Cond.methodLinkNest own index y host ∈ nst) (hini : Cond.initialized y.cls ∈ Ts) (hsm : Cond.static y ∈ Ts) (hd : y.cls ≠ "java/lang/invoke/MethodHandle" ∧ y.cls ≠ "java/lang/invoke/VarHandle" ∧ (parseMethodDescriptor y.desc).map (fun d => d.parameters.length) = some As.length) (hR : rm.frames + 1 ≤ R.frames ∧ 8 + (maxL + 11) + rm.locals ≤ R.locals) (hws : ws = w) (hst : st0 = As.reverse ++ st) (hW : (st.map fun v => v.category).sum ≤ 8) (hrm : rm.cells = 0 ∧ rm.slots = 0) (hk : k ≤ R.cells ∧ n ≤ R.slots) (h : ∀ (u : va_W), post u → jc_J p l e R s m args below meth c Q D cl A nL k n pc' lv (st) u) : jc_J p l e R s m args below meth c Q D cl A nL k n pc lv st0 ws := by
  refine jj_callSNv (w1 := []) (w2 := []) X d pc' hp M g hlk hini hsm hd hR (by simpa using hws) hst hW (by rw [hrm.1, hrm.2]; exact hk) (fun u hu => ?_)
  rw [hrm.1, hrm.2]
  simpa using h u hu
theorem jj_callI {y : MethodName} {bytes : ByteArray} {maxL index : Nat} {rm : Room} {b : Nat} {As : List Value} {post : va_W → Prop} {w1 w w2 : va_W} (X : jc_X p s m args c cc nL Ts own D cl tys nst A) (d : decode cc pc = .ok (.invokespecial index, 3)) (pc' : Nat) (hp : pc + 3 = pc') (M : mt_V l D cl tys nst y (Cond.code y bytes maxL none :: gt) rm (.ref b :: As) w post) (g : GoodIn Ts (Cond.code y bytes maxL none :: gt)) (hlk : Cond.methodLink own index y ∈ Ts) (hini : Cond.initialized y.cls ∈ Ts) (hinm : Cond.instanceMethod y ∈ Ts) (hnm : y.name = "<init>") (hd : y.cls ≠ "java/lang/invoke/MethodHandle" ∧ y.cls ≠ "java/lang/invoke/VarHandle" ∧ (parseMethodDescriptor y.desc).map (fun d => d.parameters.length) = some As.length) (hR : rm.frames + 1 ≤ R.frames ∧ 8 + (maxL + 11) + rm.locals ≤ R.locals) (hws : ws = w1 ++ (w ++ w2)) (hst : st0 = As.reverse ++ .ref b :: st) (hW : (st.map fun v => v.category).sum ≤ 8) (hf : k + rm.cells ≤ R.cells ∧ n + rm.slots ≤ R.slots) (h : ∀ (u : va_W), post u → jc_J p l e R s m args below meth c Q D cl A nL (k + rm.cells) (n + rm.slots) pc' lv (st) (w1 ++ (u ++ w2))) : jc_J p l e R s m args below meth c Q D cl A nL k n pc lv st0 ws := by
  subst hp; subst hws
  intro H locs ls hP hD hS hl
  have hPw := jw_Pl (jw_Pr hP)
  have hDw : va_D (fun _ => True) w := (jw_Dl (jw_Dr hD)).weaken (fun _ _ _ _ => trivial)
  exact jj_afterV X hP hD hS hl (va_runI (As := As) (rest := st) X.1 (M H.size) (cwI As.length X.1.2.2.2.2 g rfl rfl rfl (X.1.2.2.2.2 _ hini) (X.1.2.2.2.2 _ hlk) (X.1.2.2.2.2 _ hinm) hnm hd hR) ⟨jc_P_blind, fun U hU hW => ⟨rfl, by rw [hU], by rw [hU]; exact hPw, va_K.moved hW.alike X.2.1, hDw, jc_N_warm hW X.2.2.2⟩⟩ rfl rfl hl.1 hst (lv_room hW) d hf) h
theorem jj_callI0 {y : MethodName} {bytes : ByteArray} {maxL index : Nat} {rm : Room} {b : Nat} {As : List Value} {post : va_W → Prop} {w : va_W} (X : jc_X p s m args c cc nL Ts own D cl tys nst A) (d : decode cc pc = .ok (.invokespecial index, 3)) (pc' : Nat) (hp : pc + 3 = pc') (M : mt_V l D cl tys nst y (Cond.code y bytes maxL none :: gt) rm (.ref b :: As) w post) (g : GoodIn Ts (Cond.code y bytes maxL none :: gt)) (hlk : Cond.methodLink own index y ∈ Ts) (hini : Cond.initialized y.cls ∈ Ts) (hinm : Cond.instanceMethod y ∈ Ts) (hnm : y.name = "<init>") (hd : y.cls ≠ "java/lang/invoke/MethodHandle" ∧ y.cls ≠ "java/lang/invoke/VarHandle" ∧ (parseMethodDescriptor y.desc).map (fun d => d.parameters.length) = some As.length) (hR : rm.frames + 1 ≤ R.frames ∧ 8 + (maxL + 11) + rm.locals ≤ R.locals) (hws : ws = w) (hst : st0 = As.reverse ++ .ref b :: st) (hW : (st.map fun v => v.category).sum ≤ 8) (hrm : rm.cells = 0 ∧ rm.slots = 0) (hk : k ≤ R.cells ∧ n ≤ R.slots) (h : ∀ (u : va_W), post u → jc_J p l e R s m args below meth c Q D cl A nL k n pc' lv (st) u) : jc_J p l e R s m args below meth c Q D cl A nL k n pc lv st0 ws := by
  refine jj_callI (w1 := []) (w2 := []) X d pc' hp M g hlk hini hinm hnm hd hR (by simpa using hws) hst hW (by rw [hrm.1, hrm.2]; exact hk) (fun u hu => ?_)
  rw [hrm.1, hrm.2]
  simpa using h u hu
theorem jj_callIN {y : MethodName} {bytes : ByteArray} {maxL index : Nat} {rm : Room} {b : Nat} {As : List Value} {post : va_W → Prop} {w1 w w2 : va_W} (X : jc_X p s m args c cc nL Ts own D cl tys nst A) (d : decode cc pc = .ok (.invokespecial index, 3)) (pc' : Nat) (hp : pc + 3 = pc') (M : mt_V l D cl tys nst y (Cond.code y bytes maxL none :: gt) rm (.ref b :: As) w post) (g : GoodIn Ts (Cond.code y bytes maxL none :: gt)) {host : String} (hlk : Cond.methodLinkNest own index y host ∈ nst) (hini : Cond.initialized y.cls ∈ Ts) (hinm : Cond.instanceMethod y ∈ Ts) (hnm : y.name = "<init>") (hd : y.cls ≠ "java/lang/invoke/MethodHandle" ∧ y.cls ≠ "java/lang/invoke/VarHandle" ∧ (parseMethodDescriptor y.desc).map (fun d => d.parameters.length) = some As.length) (hR : rm.frames + 1 ≤ R.frames ∧ 8 + (maxL + 11) + rm.locals ≤ R.locals) (hws : ws = w1 ++ (w ++ w2)) (hst : st0 = As.reverse ++ .ref b :: st) (hW : (st.map fun v => v.category).sum ≤ 8) (hf : k + rm.cells ≤ R.cells ∧ n + rm.slots ≤ R.slots) (h : ∀ (u : va_W), post u → jc_J p l e R s m args below meth c Q D cl A nL (k + rm.cells) (n + rm.slots) pc' lv (st) (w1 ++ (u ++ w2))) : jc_J p l e R s m args below meth c Q D cl A nL k n pc lv st0 ws := by
  subst hp; subst hws
  intro H locs ls hP hD hS hl
  have hPw := jw_Pl (jw_Pr hP)
  have hDw : va_D (fun _ => True) w := (jw_Dl (jw_Dr hD)).weaken (fun _ _ _ _ => trivial)
  exact jj_afterV X hP hD hS hl (va_runIN (As := As) (rest := st) X.1 (M H.size) (⟨va_cnB As.length X.1.2.2.2.2 g rfl rfl rfl (X.2.2.2 _ hlk).2 (X.1.2.2.2.2 _ hini) hd hR, hnm, X.1.2.2.2.2 _ hinm⟩) ⟨jc_P_blind, fun U hU hW => ⟨rfl, by rw [hU], by rw [hU]; exact hPw, va_K.moved hW.alike X.2.1, hDw, jc_N_warm hW X.2.2.2⟩⟩ rfl rfl hl.1 hst (lv_room hW) d hf) h
theorem jj_callIN0 {y : MethodName} {bytes : ByteArray} {maxL index : Nat} {rm : Room} {b : Nat} {As : List Value} {post : va_W → Prop} {w : va_W} (X : jc_X p s m args c cc nL Ts own D cl tys nst A) (d : decode cc pc = .ok (.invokespecial index, 3)) (pc' : Nat) (hp : pc + 3 = pc') (M : mt_V l D cl tys nst y (Cond.code y bytes maxL none :: gt) rm (.ref b :: As) w post) (g : GoodIn Ts (Cond.code y bytes maxL none :: gt)) {host : String} (hlk : Cond.methodLinkNest own index y host ∈ nst) (hini : Cond.initialized y.cls ∈ Ts) (hinm : Cond.instanceMethod y ∈ Ts) (hnm : y.name = "<init>") (hd : y.cls ≠ "java/lang/invoke/MethodHandle" ∧ y.cls ≠ "java/lang/invoke/VarHandle" ∧ (parseMethodDescriptor y.desc).map (fun d => d.parameters.length) = some As.length) (hR : rm.frames + 1 ≤ R.frames ∧ 8 + (maxL + 11) + rm.locals ≤ R.locals) (hws : ws = w) (hst : st0 = As.reverse ++ .ref b :: st) (hW : (st.map fun v => v.category).sum ≤ 8) (hrm : rm.cells = 0 ∧ rm.slots = 0) (hk : k ≤ R.cells ∧ n ≤ R.slots) (h : ∀ (u : va_W), post u → jc_J p l e R s m args below meth c Q D cl A nL k n pc' lv (st) u) : jc_J p l e R s m args below meth c Q D cl A nL k n pc lv st0 ws := by
  refine jj_callIN (w1 := []) (w2 := []) X d pc' hp M g hlk hini hinm hnm hd hR (by simpa using hws) hst hW (by rw [hrm.1, hrm.2]; exact hk) (fun u hu => ?_)
  rw [hrm.1, hrm.2]
  simpa using h u hu
end JC
end
section
/-- a state: rows of numbers; row 0 holds the single numbers -/
abbrev Rows : Type := Nat → Nat → Int32
def ua (A : Rows) (r : Nat) (f : Nat → Int32) : Rows := fun i => bif Nat.beq i r then f else A i
def uz (f : Nat → Int32) (k : Nat) (x : Int32) : Nat → Int32 := fun j => bif Nat.beq j k then x else f j
def b2 (b : Bool) : Int32 := bif b then 1 else 0
theorem b2_f {b : Bool} (h : b2 b = 0) : b = false := by cases b with | false => rfl | true => exact absurd h (by decide)
theorem b2_t {b : Bool} (h : ¬ b2 b = 0) : b = true := by cases b with | true => rfl | false => exact absurd rfl h
theorem b2_nar (b : Bool) : narrow .boolean (.int (b2 b)) = .int (b2 b) := by cases b <;> rfl
theorem b2_vp (b : Bool) : vp_nar .boolean (b2 b) = b2 b := by cases b <;> rfl
theorem ar_cl {f : Nat → Int32} {k : Nat} (h : k < 2 ^ 31) : f (nI k).toNatClampNeg = f k := by rw [nI_clamp h]
theorem ar_inc (k : Nat) : nI k + Int32.ofInt 1 = nI (k + 1) := (nI_succ k).symm
/-- the room of a method that calls n deep -/
def rmd (n : Nat) : Room := { frames := n, cells := 0, slots := 0, locals := 40 * n }
theorem sw_out {x : Int32} (lo hi : Int) (h0 : -2147483648 ≤ lo) (h1 : hi < 2147483648) (h : ∀ z : Int, lo ≤ z → z ≤ hi → ¬ x = Int32.ofInt z) : x.toInt < lo ∨ hi < x.toInt := by
  rcases Int.lt_or_le x.toInt lo with a | a
  · exact Or.inl a
  rcases Int.lt_or_le hi x.toInt with b | b
  · exact Or.inr b
  · exact absurd (Int32.ofInt_toInt x).symm (h x.toInt a b)
def mx2 (g0 g1 : Nat → Int32) : Nat → Int32 := fun i => match i % 2 with
  | 0 => g0 (i / 2)
  | _ => g1 (i / 2)
theorem mxr2_0 {g0 g1 : Nat → Int32} (r : Nat) : mx2 g0 g1 (2 * r) = g0 r := by
  unfold mx2
  rw [show (2 * r) % 2 = 0 by omega, show (2 * r) / 2 = r by omega]
  rfl
theorem mxr2_1 {g0 g1 : Nat → Int32} (r : Nat) : mx2 g0 g1 (2 * r + 1) = g1 r := by
  unfold mx2
  rw [show (2 * r + 1) % 2 = 1 by omega, show (2 * r + 1) / 2 = r by omega]
  rfl
theorem mxu2_0 {g0 g1 : Nat → Int32} (r : Nat) (v : Int32) : upd (mx2 g0 g1) (2 * r) v = mx2 (upd g0 r v) g1 := by
  funext i
  have hi : i = 2 * (i / 2) ∨ i = 2 * (i / 2) + 1 := by omega
  generalize i / 2 = a at hi
  rcases hi with rfl | rfl
  · rw [mxr2_0 a]
    unfold upd
    by_cases e : a = r
    · rw [if_pos (by rw [e]), if_pos e]
    · rw [if_neg (by omega), if_neg e, mxr2_0 a]
  · rw [mxr2_1 a]
    unfold upd
    rw [if_neg (by omega), mxr2_1 a]
theorem mxu2_1 {g0 g1 : Nat → Int32} (r : Nat) (v : Int32) : upd (mx2 g0 g1) (2 * r + 1) v = mx2 g0 (upd g1 r v) := by
  funext i
  have hi : i = 2 * (i / 2) ∨ i = 2 * (i / 2) + 1 := by omega
  generalize i / 2 = a at hi
  rcases hi with rfl | rfl
  · rw [mxr2_0 a]
    unfold upd
    rw [if_neg (by omega), mxr2_0 a]
  · rw [mxr2_1 a]
    unfold upd
    by_cases e : a = r
    · rw [if_pos (by rw [e]), if_pos e]
    · rw [if_neg (by omega), if_neg e, mxr2_1 a]
def mx3 (g0 g1 g2 : Nat → Int32) : Nat → Int32 := fun i => match i % 3 with
  | 0 => g0 (i / 3)
  | 1 => g1 (i / 3)
  | _ => g2 (i / 3)
theorem mxr3_0 {g0 g1 g2 : Nat → Int32} (r : Nat) : mx3 g0 g1 g2 (3 * r) = g0 r := by
  unfold mx3
  rw [show (3 * r) % 3 = 0 by omega, show (3 * r) / 3 = r by omega]
  rfl
theorem mxr3_1 {g0 g1 g2 : Nat → Int32} (r : Nat) : mx3 g0 g1 g2 (3 * r + 1) = g1 r := by
  unfold mx3
  rw [show (3 * r + 1) % 3 = 1 by omega, show (3 * r + 1) / 3 = r by omega]
  rfl
theorem mxr3_2 {g0 g1 g2 : Nat → Int32} (r : Nat) : mx3 g0 g1 g2 (3 * r + 2) = g2 r := by
  unfold mx3
  rw [show (3 * r + 2) % 3 = 2 by omega, show (3 * r + 2) / 3 = r by omega]
  rfl
theorem mxu3_0 {g0 g1 g2 : Nat → Int32} (r : Nat) (v : Int32) : upd (mx3 g0 g1 g2) (3 * r) v = mx3 (upd g0 r v) g1 g2 := by
  funext i
  have hi : i = 3 * (i / 3) ∨ i = 3 * (i / 3) + 1 ∨ i = 3 * (i / 3) + 2 := by omega
  generalize i / 3 = a at hi
  rcases hi with rfl | rfl | rfl
  · rw [mxr3_0 a]
    unfold upd
    by_cases e : a = r
    · rw [if_pos (by rw [e]), if_pos e]
    · rw [if_neg (by omega), if_neg e, mxr3_0 a]
  · rw [mxr3_1 a]
    unfold upd
    rw [if_neg (by omega), mxr3_1 a]
  · rw [mxr3_2 a]
    unfold upd
    rw [if_neg (by omega), mxr3_2 a]
theorem mxu3_1 {g0 g1 g2 : Nat → Int32} (r : Nat) (v : Int32) : upd (mx3 g0 g1 g2) (3 * r + 1) v = mx3 g0 (upd g1 r v) g2 := by
  funext i
  have hi : i = 3 * (i / 3) ∨ i = 3 * (i / 3) + 1 ∨ i = 3 * (i / 3) + 2 := by omega
  generalize i / 3 = a at hi
  rcases hi with rfl | rfl | rfl
  · rw [mxr3_0 a]
    unfold upd
    rw [if_neg (by omega), mxr3_0 a]
  · rw [mxr3_1 a]
    unfold upd
    by_cases e : a = r
    · rw [if_pos (by rw [e]), if_pos e]
    · rw [if_neg (by omega), if_neg e, mxr3_1 a]
  · rw [mxr3_2 a]
    unfold upd
    rw [if_neg (by omega), mxr3_2 a]
theorem mxu3_2 {g0 g1 g2 : Nat → Int32} (r : Nat) (v : Int32) : upd (mx3 g0 g1 g2) (3 * r + 2) v = mx3 g0 g1 (upd g2 r v) := by
  funext i
  have hi : i = 3 * (i / 3) ∨ i = 3 * (i / 3) + 1 ∨ i = 3 * (i / 3) + 2 := by omega
  generalize i / 3 = a at hi
  rcases hi with rfl | rfl | rfl
  · rw [mxr3_0 a]
    unfold upd
    rw [if_neg (by omega), mxr3_0 a]
  · rw [mxr3_1 a]
    unfold upd
    rw [if_neg (by omega), mxr3_1 a]
  · rw [mxr3_2 a]
    unfold upd
    by_cases e : a = r
    · rw [if_pos (by rw [e]), if_pos e]
    · rw [if_neg (by omega), if_neg e, mxr3_2 a]
def mx6 (g0 g1 g2 g3 g4 g5 : Nat → Int32) : Nat → Int32 := fun i => match i % 6 with
  | 0 => g0 (i / 6)
  | 1 => g1 (i / 6)
  | 2 => g2 (i / 6)
  | 3 => g3 (i / 6)
  | 4 => g4 (i / 6)
  | _ => g5 (i / 6)
theorem mxr6_0 {g0 g1 g2 g3 g4 g5 : Nat → Int32} (r : Nat) : mx6 g0 g1 g2 g3 g4 g5 (6 * r) = g0 r := by
  unfold mx6
  rw [show (6 * r) % 6 = 0 by omega, show (6 * r) / 6 = r by omega]
  rfl
theorem mxr6_1 {g0 g1 g2 g3 g4 g5 : Nat → Int32} (r : Nat) : mx6 g0 g1 g2 g3 g4 g5 (6 * r + 1) = g1 r := by
  unfold mx6
  rw [show (6 * r + 1) % 6 = 1 by omega, show (6 * r + 1) / 6 = r by omega]
  rfl
theorem mxr6_2 {g0 g1 g2 g3 g4 g5 : Nat → Int32} (r : Nat) : mx6 g0 g1 g2 g3 g4 g5 (6 * r + 2) = g2 r := by
  unfold mx6
  rw [show (6 * r + 2) % 6 = 2 by omega, show (6 * r + 2) / 6 = r by omega]
  rfl
theorem mxr6_3 {g0 g1 g2 g3 g4 g5 : Nat → Int32} (r : Nat) : mx6 g0 g1 g2 g3 g4 g5 (6 * r + 3) = g3 r := by
  unfold mx6
  rw [show (6 * r + 3) % 6 = 3 by omega, show (6 * r + 3) / 6 = r by omega]
  rfl
theorem mxr6_4 {g0 g1 g2 g3 g4 g5 : Nat → Int32} (r : Nat) : mx6 g0 g1 g2 g3 g4 g5 (6 * r + 4) = g4 r := by
  unfold mx6
  rw [show (6 * r + 4) % 6 = 4 by omega, show (6 * r + 4) / 6 = r by omega]
  rfl
theorem mxr6_5 {g0 g1 g2 g3 g4 g5 : Nat → Int32} (r : Nat) : mx6 g0 g1 g2 g3 g4 g5 (6 * r + 5) = g5 r := by
  unfold mx6
  rw [show (6 * r + 5) % 6 = 5 by omega, show (6 * r + 5) / 6 = r by omega]
  rfl
theorem mxu6_0 {g0 g1 g2 g3 g4 g5 : Nat → Int32} (r : Nat) (v : Int32) : upd (mx6 g0 g1 g2 g3 g4 g5) (6 * r) v = mx6 (upd g0 r v) g1 g2 g3 g4 g5 := by
  funext i
  have hi : i = 6 * (i / 6) ∨ i = 6 * (i / 6) + 1 ∨ i = 6 * (i / 6) + 2 ∨ i = 6 * (i / 6) + 3 ∨ i = 6 * (i / 6) + 4 ∨ i = 6 * (i / 6) + 5 := by omega
  generalize i / 6 = a at hi
  rcases hi with rfl | rfl | rfl | rfl | rfl | rfl
  · rw [mxr6_0 a]
    unfold upd
    by_cases e : a = r
    · rw [if_pos (by rw [e]), if_pos e]
    · rw [if_neg (by omega), if_neg e, mxr6_0 a]
  · rw [mxr6_1 a]
    unfold upd
    rw [if_neg (by omega), mxr6_1 a]
  · rw [mxr6_2 a]
    unfold upd
    rw [if_neg (by omega), mxr6_2 a]
  · rw [mxr6_3 a]
    unfold upd
    rw [if_neg (by omega), mxr6_3 a]
  · rw [mxr6_4 a]
    unfold upd
    rw [if_neg (by omega), mxr6_4 a]
  · rw [mxr6_5 a]
    unfold upd
    rw [if_neg (by omega), mxr6_5 a]
theorem mxu6_1 {g0 g1 g2 g3 g4 g5 : Nat → Int32} (r : Nat) (v : Int32) : upd (mx6 g0 g1 g2 g3 g4 g5) (6 * r + 1) v = mx6 g0 (upd g1 r v) g2 g3 g4 g5 := by
  funext i
  have hi : i = 6 * (i / 6) ∨ i = 6 * (i / 6) + 1 ∨ i = 6 * (i / 6) + 2 ∨ i = 6 * (i / 6) + 3 ∨ i = 6 * (i / 6) + 4 ∨ i = 6 * (i / 6) + 5 := by omega
  generalize i / 6 = a at hi
  rcases hi with rfl | rfl | rfl | rfl | rfl | rfl
  · rw [mxr6_0 a]
    unfold upd
    rw [if_neg (by omega), mxr6_0 a]
  · rw [mxr6_1 a]
    unfold upd
    by_cases e : a = r
    · rw [if_pos (by rw [e]), if_pos e]
    · rw [if_neg (by omega), if_neg e, mxr6_1 a]
  · rw [mxr6_2 a]
    unfold upd
    rw [if_neg (by omega), mxr6_2 a]
  · rw [mxr6_3 a]
    unfold upd
    rw [if_neg (by omega), mxr6_3 a]
  · rw [mxr6_4 a]
    unfold upd
    rw [if_neg (by omega), mxr6_4 a]
  · rw [mxr6_5 a]
    unfold upd
    rw [if_neg (by omega), mxr6_5 a]
theorem mxu6_2 {g0 g1 g2 g3 g4 g5 : Nat → Int32} (r : Nat) (v : Int32) : upd (mx6 g0 g1 g2 g3 g4 g5) (6 * r + 2) v = mx6 g0 g1 (upd g2 r v) g3 g4 g5 := by
  funext i
  have hi : i = 6 * (i / 6) ∨ i = 6 * (i / 6) + 1 ∨ i = 6 * (i / 6) + 2 ∨ i = 6 * (i / 6) + 3 ∨ i = 6 * (i / 6) + 4 ∨ i = 6 * (i / 6) + 5 := by omega
  generalize i / 6 = a at hi
  rcases hi with rfl | rfl | rfl | rfl | rfl | rfl
  · rw [mxr6_0 a]
    unfold upd
    rw [if_neg (by omega), mxr6_0 a]
  · rw [mxr6_1 a]
    unfold upd
    rw [if_neg (by omega), mxr6_1 a]
  · rw [mxr6_2 a]
    unfold upd
    by_cases e : a = r
    · rw [if_pos (by rw [e]), if_pos e]
    · rw [if_neg (by omega), if_neg e, mxr6_2 a]
  · rw [mxr6_3 a]
    unfold upd
    rw [if_neg (by omega), mxr6_3 a]
  · rw [mxr6_4 a]
    unfold upd
    rw [if_neg (by omega), mxr6_4 a]
  · rw [mxr6_5 a]
    unfold upd
    rw [if_neg (by omega), mxr6_5 a]
theorem mxu6_3 {g0 g1 g2 g3 g4 g5 : Nat → Int32} (r : Nat) (v : Int32) : upd (mx6 g0 g1 g2 g3 g4 g5) (6 * r + 3) v = mx6 g0 g1 g2 (upd g3 r v) g4 g5 := by
  funext i
  have hi : i = 6 * (i / 6) ∨ i = 6 * (i / 6) + 1 ∨ i = 6 * (i / 6) + 2 ∨ i = 6 * (i / 6) + 3 ∨ i = 6 * (i / 6) + 4 ∨ i = 6 * (i / 6) + 5 := by omega
  generalize i / 6 = a at hi
  rcases hi with rfl | rfl | rfl | rfl | rfl | rfl
  · rw [mxr6_0 a]
    unfold upd
    rw [if_neg (by omega), mxr6_0 a]
  · rw [mxr6_1 a]
    unfold upd
    rw [if_neg (by omega), mxr6_1 a]
  · rw [mxr6_2 a]
    unfold upd
    rw [if_neg (by omega), mxr6_2 a]
  · rw [mxr6_3 a]
    unfold upd
    by_cases e : a = r
    · rw [if_pos (by rw [e]), if_pos e]
    · rw [if_neg (by omega), if_neg e, mxr6_3 a]
  · rw [mxr6_4 a]
    unfold upd
    rw [if_neg (by omega), mxr6_4 a]
  · rw [mxr6_5 a]
    unfold upd
    rw [if_neg (by omega), mxr6_5 a]
theorem mxu6_4 {g0 g1 g2 g3 g4 g5 : Nat → Int32} (r : Nat) (v : Int32) : upd (mx6 g0 g1 g2 g3 g4 g5) (6 * r + 4) v = mx6 g0 g1 g2 g3 (upd g4 r v) g5 := by
  funext i
  have hi : i = 6 * (i / 6) ∨ i = 6 * (i / 6) + 1 ∨ i = 6 * (i / 6) + 2 ∨ i = 6 * (i / 6) + 3 ∨ i = 6 * (i / 6) + 4 ∨ i = 6 * (i / 6) + 5 := by omega
  generalize i / 6 = a at hi
  rcases hi with rfl | rfl | rfl | rfl | rfl | rfl
  · rw [mxr6_0 a]
    unfold upd
    rw [if_neg (by omega), mxr6_0 a]
  · rw [mxr6_1 a]
    unfold upd
    rw [if_neg (by omega), mxr6_1 a]
  · rw [mxr6_2 a]
    unfold upd
    rw [if_neg (by omega), mxr6_2 a]
  · rw [mxr6_3 a]
    unfold upd
    rw [if_neg (by omega), mxr6_3 a]
  · rw [mxr6_4 a]
    unfold upd
    by_cases e : a = r
    · rw [if_pos (by rw [e]), if_pos e]
    · rw [if_neg (by omega), if_neg e, mxr6_4 a]
  · rw [mxr6_5 a]
    unfold upd
    rw [if_neg (by omega), mxr6_5 a]
theorem mxu6_5 {g0 g1 g2 g3 g4 g5 : Nat → Int32} (r : Nat) (v : Int32) : upd (mx6 g0 g1 g2 g3 g4 g5) (6 * r + 5) v = mx6 g0 g1 g2 g3 g4 (upd g5 r v) := by
  funext i
  have hi : i = 6 * (i / 6) ∨ i = 6 * (i / 6) + 1 ∨ i = 6 * (i / 6) + 2 ∨ i = 6 * (i / 6) + 3 ∨ i = 6 * (i / 6) + 4 ∨ i = 6 * (i / 6) + 5 := by omega
  generalize i / 6 = a at hi
  rcases hi with rfl | rfl | rfl | rfl | rfl | rfl
  · rw [mxr6_0 a]
    unfold upd
    rw [if_neg (by omega), mxr6_0 a]
  · rw [mxr6_1 a]
    unfold upd
    rw [if_neg (by omega), mxr6_1 a]
  · rw [mxr6_2 a]
    unfold upd
    rw [if_neg (by omega), mxr6_2 a]
  · rw [mxr6_3 a]
    unfold upd
    rw [if_neg (by omega), mxr6_3 a]
  · rw [mxr6_4 a]
    unfold upd
    rw [if_neg (by omega), mxr6_4 a]
  · rw [mxr6_5 a]
    unfold upd
    by_cases e : a = r
    · rw [if_pos (by rw [e]), if_pos e]
    · rw [if_neg (by omega), if_neg e, mxr6_5 a]
def mx8 (g0 g1 g2 g3 g4 g5 g6 g7 : Nat → Int32) : Nat → Int32 := fun i => match i % 8 with
  | 0 => g0 (i / 8)
  | 1 => g1 (i / 8)
  | 2 => g2 (i / 8)
  | 3 => g3 (i / 8)
  | 4 => g4 (i / 8)
  | 5 => g5 (i / 8)
  | 6 => g6 (i / 8)
  | _ => g7 (i / 8)
theorem mxr8_0 {g0 g1 g2 g3 g4 g5 g6 g7 : Nat → Int32} (r : Nat) : mx8 g0 g1 g2 g3 g4 g5 g6 g7 (8 * r) = g0 r := by
  unfold mx8
  rw [show (8 * r) % 8 = 0 by omega, show (8 * r) / 8 = r by omega]
  rfl
theorem mxr8_1 {g0 g1 g2 g3 g4 g5 g6 g7 : Nat → Int32} (r : Nat) : mx8 g0 g1 g2 g3 g4 g5 g6 g7 (8 * r + 1) = g1 r := by
  unfold mx8
  rw [show (8 * r + 1) % 8 = 1 by omega, show (8 * r + 1) / 8 = r by omega]
  rfl
theorem mxr8_2 {g0 g1 g2 g3 g4 g5 g6 g7 : Nat → Int32} (r : Nat) : mx8 g0 g1 g2 g3 g4 g5 g6 g7 (8 * r + 2) = g2 r := by
  unfold mx8
  rw [show (8 * r + 2) % 8 = 2 by omega, show (8 * r + 2) / 8 = r by omega]
  rfl
theorem mxr8_3 {g0 g1 g2 g3 g4 g5 g6 g7 : Nat → Int32} (r : Nat) : mx8 g0 g1 g2 g3 g4 g5 g6 g7 (8 * r + 3) = g3 r := by
  unfold mx8
  rw [show (8 * r + 3) % 8 = 3 by omega, show (8 * r + 3) / 8 = r by omega]
  rfl
theorem mxr8_4 {g0 g1 g2 g3 g4 g5 g6 g7 : Nat → Int32} (r : Nat) : mx8 g0 g1 g2 g3 g4 g5 g6 g7 (8 * r + 4) = g4 r := by
  unfold mx8
  rw [show (8 * r + 4) % 8 = 4 by omega, show (8 * r + 4) / 8 = r by omega]
  rfl
theorem mxr8_5 {g0 g1 g2 g3 g4 g5 g6 g7 : Nat → Int32} (r : Nat) : mx8 g0 g1 g2 g3 g4 g5 g6 g7 (8 * r + 5) = g5 r := by
  unfold mx8
  rw [show (8 * r + 5) % 8 = 5 by omega, show (8 * r + 5) / 8 = r by omega]
  rfl
theorem mxr8_6 {g0 g1 g2 g3 g4 g5 g6 g7 : Nat → Int32} (r : Nat) : mx8 g0 g1 g2 g3 g4 g5 g6 g7 (8 * r + 6) = g6 r := by
  unfold mx8
  rw [show (8 * r + 6) % 8 = 6 by omega, show (8 * r + 6) / 8 = r by omega]
  rfl
theorem mxr8_7 {g0 g1 g2 g3 g4 g5 g6 g7 : Nat → Int32} (r : Nat) : mx8 g0 g1 g2 g3 g4 g5 g6 g7 (8 * r + 7) = g7 r := by
  unfold mx8
  rw [show (8 * r + 7) % 8 = 7 by omega, show (8 * r + 7) / 8 = r by omega]
  rfl
theorem mxu8_0 {g0 g1 g2 g3 g4 g5 g6 g7 : Nat → Int32} (r : Nat) (v : Int32) : upd (mx8 g0 g1 g2 g3 g4 g5 g6 g7) (8 * r) v = mx8 (upd g0 r v) g1 g2 g3 g4 g5 g6 g7 := by
  funext i
  have hi : i = 8 * (i / 8) ∨ i = 8 * (i / 8) + 1 ∨ i = 8 * (i / 8) + 2 ∨ i = 8 * (i / 8) + 3 ∨ i = 8 * (i / 8) + 4 ∨ i = 8 * (i / 8) + 5 ∨ i = 8 * (i / 8) + 6 ∨ i = 8 * (i / 8) + 7 := by omega
  generalize i / 8 = a at hi
  rcases hi with rfl | rfl | rfl | rfl | rfl | rfl | rfl | rfl
  · rw [mxr8_0 a]
    unfold upd
    by_cases e : a = r
    · rw [if_pos (by rw [e]), if_pos e]
    · rw [if_neg (by omega), if_neg e, mxr8_0 a]
  · rw [mxr8_1 a]
    unfold upd
    rw [if_neg (by omega), mxr8_1 a]
  · rw [mxr8_2 a]
    unfold upd
    rw [if_neg (by omega), mxr8_2 a]
  · rw [mxr8_3 a]
    unfold upd
    rw [if_neg (by omega), mxr8_3 a]
  · rw [mxr8_4 a]
    unfold upd
    rw [if_neg (by omega), mxr8_4 a]
  · rw [mxr8_5 a]
    unfold upd
    rw [if_neg (by omega), mxr8_5 a]
  · rw [mxr8_6 a]
    unfold upd
    rw [if_neg (by omega), mxr8_6 a]
  · rw [mxr8_7 a]
    unfold upd
    rw [if_neg (by omega), mxr8_7 a]
theorem mxu8_1 {g0 g1 g2 g3 g4 g5 g6 g7 : Nat → Int32} (r : Nat) (v : Int32) : upd (mx8 g0 g1 g2 g3 g4 g5 g6 g7) (8 * r + 1) v = mx8 g0 (upd g1 r v) g2 g3 g4 g5 g6 g7 := by
  funext i
  have hi : i = 8 * (i / 8) ∨ i = 8 * (i / 8) + 1 ∨ i = 8 * (i / 8) + 2 ∨ i = 8 * (i / 8) + 3 ∨ i = 8 * (i / 8) + 4 ∨ i = 8 * (i / 8) + 5 ∨ i = 8 * (i / 8) + 6 ∨ i = 8 * (i / 8) + 7 := by omega
  generalize i / 8 = a at hi
  rcases hi with rfl | rfl | rfl | rfl | rfl | rfl | rfl | rfl
  · rw [mxr8_0 a]
    unfold upd
    rw [if_neg (by omega), mxr8_0 a]
  · rw [mxr8_1 a]
    unfold upd
    by_cases e : a = r
    · rw [if_pos (by rw [e]), if_pos e]
    · rw [if_neg (by omega), if_neg e, mxr8_1 a]
  · rw [mxr8_2 a]
    unfold upd
    rw [if_neg (by omega), mxr8_2 a]
  · rw [mxr8_3 a]
    unfold upd
    rw [if_neg (by omega), mxr8_3 a]
  · rw [mxr8_4 a]
    unfold upd
    rw [if_neg (by omega), mxr8_4 a]
  · rw [mxr8_5 a]
    unfold upd
    rw [if_neg (by omega), mxr8_5 a]
  · rw [mxr8_6 a]
    unfold upd
    rw [if_neg (by omega), mxr8_6 a]
  · rw [mxr8_7 a]
    unfold upd
    rw [if_neg (by omega), mxr8_7 a]
theorem mxu8_2 {g0 g1 g2 g3 g4 g5 g6 g7 : Nat → Int32} (r : Nat) (v : Int32) : upd (mx8 g0 g1 g2 g3 g4 g5 g6 g7) (8 * r + 2) v = mx8 g0 g1 (upd g2 r v) g3 g4 g5 g6 g7 := by
  funext i
  have hi : i = 8 * (i / 8) ∨ i = 8 * (i / 8) + 1 ∨ i = 8 * (i / 8) + 2 ∨ i = 8 * (i / 8) + 3 ∨ i = 8 * (i / 8) + 4 ∨ i = 8 * (i / 8) + 5 ∨ i = 8 * (i / 8) + 6 ∨ i = 8 * (i / 8) + 7 := by omega
  generalize i / 8 = a at hi
  rcases hi with rfl | rfl | rfl | rfl | rfl | rfl | rfl | rfl
  · rw [mxr8_0 a]
    unfold upd
    rw [if_neg (by omega), mxr8_0 a]
  · rw [mxr8_1 a]
    unfold upd
    rw [if_neg (by omega), mxr8_1 a]
  · rw [mxr8_2 a]
    unfold upd
    by_cases e : a = r
    · rw [if_pos (by rw [e]), if_pos e]
    · rw [if_neg (by omega), if_neg e, mxr8_2 a]
  · rw [mxr8_3 a]
    unfold upd
    rw [if_neg (by omega), mxr8_3 a]
  · rw [mxr8_4 a]
    unfold upd
    rw [if_neg (by omega), mxr8_4 a]
  · rw [mxr8_5 a]
    unfold upd
    rw [if_neg (by omega), mxr8_5 a]
  · rw [mxr8_6 a]
    unfold upd
    rw [if_neg (by omega), mxr8_6 a]
  · rw [mxr8_7 a]
    unfold upd
    rw [if_neg (by omega), mxr8_7 a]
theorem mxu8_3 {g0 g1 g2 g3 g4 g5 g6 g7 : Nat → Int32} (r : Nat) (v : Int32) : upd (mx8 g0 g1 g2 g3 g4 g5 g6 g7) (8 * r + 3) v = mx8 g0 g1 g2 (upd g3 r v) g4 g5 g6 g7 := by
  funext i
  have hi : i = 8 * (i / 8) ∨ i = 8 * (i / 8) + 1 ∨ i = 8 * (i / 8) + 2 ∨ i = 8 * (i / 8) + 3 ∨ i = 8 * (i / 8) + 4 ∨ i = 8 * (i / 8) + 5 ∨ i = 8 * (i / 8) + 6 ∨ i = 8 * (i / 8) + 7 := by omega
  generalize i / 8 = a at hi
  rcases hi with rfl | rfl | rfl | rfl | rfl | rfl | rfl | rfl
  · rw [mxr8_0 a]
    unfold upd
    rw [if_neg (by omega), mxr8_0 a]
  · rw [mxr8_1 a]
    unfold upd
    rw [if_neg (by omega), mxr8_1 a]
  · rw [mxr8_2 a]
    unfold upd
    rw [if_neg (by omega), mxr8_2 a]
  · rw [mxr8_3 a]
    unfold upd
    by_cases e : a = r
    · rw [if_pos (by rw [e]), if_pos e]
    · rw [if_neg (by omega), if_neg e, mxr8_3 a]
  · rw [mxr8_4 a]
    unfold upd
    rw [if_neg (by omega), mxr8_4 a]
  · rw [mxr8_5 a]
    unfold upd
    rw [if_neg (by omega), mxr8_5 a]
  · rw [mxr8_6 a]
    unfold upd
    rw [if_neg (by omega), mxr8_6 a]
  · rw [mxr8_7 a]
    unfold upd
    rw [if_neg (by omega), mxr8_7 a]
theorem mxu8_4 {g0 g1 g2 g3 g4 g5 g6 g7 : Nat → Int32} (r : Nat) (v : Int32) : upd (mx8 g0 g1 g2 g3 g4 g5 g6 g7) (8 * r + 4) v = mx8 g0 g1 g2 g3 (upd g4 r v) g5 g6 g7 := by
  funext i
  have hi : i = 8 * (i / 8) ∨ i = 8 * (i / 8) + 1 ∨ i = 8 * (i / 8) + 2 ∨ i = 8 * (i / 8) + 3 ∨ i = 8 * (i / 8) + 4 ∨ i = 8 * (i / 8) + 5 ∨ i = 8 * (i / 8) + 6 ∨ i = 8 * (i / 8) + 7 := by omega
  generalize i / 8 = a at hi
  rcases hi with rfl | rfl | rfl | rfl | rfl | rfl | rfl | rfl
  · rw [mxr8_0 a]
    unfold upd
    rw [if_neg (by omega), mxr8_0 a]
  · rw [mxr8_1 a]
    unfold upd
    rw [if_neg (by omega), mxr8_1 a]
  · rw [mxr8_2 a]
    unfold upd
    rw [if_neg (by omega), mxr8_2 a]
  · rw [mxr8_3 a]
    unfold upd
    rw [if_neg (by omega), mxr8_3 a]
  · rw [mxr8_4 a]
    unfold upd
    by_cases e : a = r
    · rw [if_pos (by rw [e]), if_pos e]
    · rw [if_neg (by omega), if_neg e, mxr8_4 a]
  · rw [mxr8_5 a]
    unfold upd
    rw [if_neg (by omega), mxr8_5 a]
  · rw [mxr8_6 a]
    unfold upd
    rw [if_neg (by omega), mxr8_6 a]
  · rw [mxr8_7 a]
    unfold upd
    rw [if_neg (by omega), mxr8_7 a]
theorem mxu8_5 {g0 g1 g2 g3 g4 g5 g6 g7 : Nat → Int32} (r : Nat) (v : Int32) : upd (mx8 g0 g1 g2 g3 g4 g5 g6 g7) (8 * r + 5) v = mx8 g0 g1 g2 g3 g4 (upd g5 r v) g6 g7 := by
  funext i
  have hi : i = 8 * (i / 8) ∨ i = 8 * (i / 8) + 1 ∨ i = 8 * (i / 8) + 2 ∨ i = 8 * (i / 8) + 3 ∨ i = 8 * (i / 8) + 4 ∨ i = 8 * (i / 8) + 5 ∨ i = 8 * (i / 8) + 6 ∨ i = 8 * (i / 8) + 7 := by omega
  generalize i / 8 = a at hi
  rcases hi with rfl | rfl | rfl | rfl | rfl | rfl | rfl | rfl
  · rw [mxr8_0 a]
    unfold upd
    rw [if_neg (by omega), mxr8_0 a]
  · rw [mxr8_1 a]
    unfold upd
    rw [if_neg (by omega), mxr8_1 a]
  · rw [mxr8_2 a]
    unfold upd
    rw [if_neg (by omega), mxr8_2 a]
  · rw [mxr8_3 a]
    unfold upd
    rw [if_neg (by omega), mxr8_3 a]
  · rw [mxr8_4 a]
    unfold upd
    rw [if_neg (by omega), mxr8_4 a]
  · rw [mxr8_5 a]
    unfold upd
    by_cases e : a = r
    · rw [if_pos (by rw [e]), if_pos e]
    · rw [if_neg (by omega), if_neg e, mxr8_5 a]
  · rw [mxr8_6 a]
    unfold upd
    rw [if_neg (by omega), mxr8_6 a]
  · rw [mxr8_7 a]
    unfold upd
    rw [if_neg (by omega), mxr8_7 a]
theorem mxu8_6 {g0 g1 g2 g3 g4 g5 g6 g7 : Nat → Int32} (r : Nat) (v : Int32) : upd (mx8 g0 g1 g2 g3 g4 g5 g6 g7) (8 * r + 6) v = mx8 g0 g1 g2 g3 g4 g5 (upd g6 r v) g7 := by
  funext i
  have hi : i = 8 * (i / 8) ∨ i = 8 * (i / 8) + 1 ∨ i = 8 * (i / 8) + 2 ∨ i = 8 * (i / 8) + 3 ∨ i = 8 * (i / 8) + 4 ∨ i = 8 * (i / 8) + 5 ∨ i = 8 * (i / 8) + 6 ∨ i = 8 * (i / 8) + 7 := by omega
  generalize i / 8 = a at hi
  rcases hi with rfl | rfl | rfl | rfl | rfl | rfl | rfl | rfl
  · rw [mxr8_0 a]
    unfold upd
    rw [if_neg (by omega), mxr8_0 a]
  · rw [mxr8_1 a]
    unfold upd
    rw [if_neg (by omega), mxr8_1 a]
  · rw [mxr8_2 a]
    unfold upd
    rw [if_neg (by omega), mxr8_2 a]
  · rw [mxr8_3 a]
    unfold upd
    rw [if_neg (by omega), mxr8_3 a]
  · rw [mxr8_4 a]
    unfold upd
    rw [if_neg (by omega), mxr8_4 a]
  · rw [mxr8_5 a]
    unfold upd
    rw [if_neg (by omega), mxr8_5 a]
  · rw [mxr8_6 a]
    unfold upd
    by_cases e : a = r
    · rw [if_pos (by rw [e]), if_pos e]
    · rw [if_neg (by omega), if_neg e, mxr8_6 a]
  · rw [mxr8_7 a]
    unfold upd
    rw [if_neg (by omega), mxr8_7 a]
theorem mxu8_7 {g0 g1 g2 g3 g4 g5 g6 g7 : Nat → Int32} (r : Nat) (v : Int32) : upd (mx8 g0 g1 g2 g3 g4 g5 g6 g7) (8 * r + 7) v = mx8 g0 g1 g2 g3 g4 g5 g6 (upd g7 r v) := by
  funext i
  have hi : i = 8 * (i / 8) ∨ i = 8 * (i / 8) + 1 ∨ i = 8 * (i / 8) + 2 ∨ i = 8 * (i / 8) + 3 ∨ i = 8 * (i / 8) + 4 ∨ i = 8 * (i / 8) + 5 ∨ i = 8 * (i / 8) + 6 ∨ i = 8 * (i / 8) + 7 := by omega
  generalize i / 8 = a at hi
  rcases hi with rfl | rfl | rfl | rfl | rfl | rfl | rfl | rfl
  · rw [mxr8_0 a]
    unfold upd
    rw [if_neg (by omega), mxr8_0 a]
  · rw [mxr8_1 a]
    unfold upd
    rw [if_neg (by omega), mxr8_1 a]
  · rw [mxr8_2 a]
    unfold upd
    rw [if_neg (by omega), mxr8_2 a]
  · rw [mxr8_3 a]
    unfold upd
    rw [if_neg (by omega), mxr8_3 a]
  · rw [mxr8_4 a]
    unfold upd
    rw [if_neg (by omega), mxr8_4 a]
  · rw [mxr8_5 a]
    unfold upd
    rw [if_neg (by omega), mxr8_5 a]
  · rw [mxr8_6 a]
    unfold upd
    rw [if_neg (by omega), mxr8_6 a]
  · rw [mxr8_7 a]
    unfold upd
    by_cases e : a = r
    · rw [if_pos (by rw [e]), if_pos e]
    · rw [if_neg (by omega), if_neg e, mxr8_7 a]
def tw (cI cZ : ClassId) (q : Nat → Nat) (A : Nat → Nat → Int32) : va_W := [(q 0, .inr (7, [.ref (q 1), .ref (q 2), .ref (q 4), .ref (q 5), .ref (q 6), .ref (q 7), .ref (q 32), .int (A 0 7)])), (q 1, .inr (3, [.ref (q 8), .int (A 0 0)])), (q 2, .inr (4, [.ref (q 9), .ref (q 10), .ref (q 11), .ref (q 12), .ref (q 13), .ref (q 14), .ref (q 3), .int (A 0 1)])), (q 3, .inr (1, [.ref (q 15), .ref (q 16), .int (A 0 2)])), (q 4, .inr (0, [.ref (q 17), .ref (q 18), .ref (q 19), .ref (q 20), .ref (q 21), .int (A 0 3)])), (q 5, .inr (5, [.ref (q 22), .ref (q 23), .ref (q 24), .ref (q 25), .ref (q 26), .ref (q 27), .int (A 0 4)])), (q 6, .inr (2, [.ref (q 28), .ref (q 29), .int (A 0 5)])), (q 7, .inr (6, [.ref (q 30), .ref (q 31), .int (A 0 6)])), (q 8, .inl (cZ, 12, .inl (A 1))), (q 9, .inl (cI, 40, .inl (A 2))), (q 10, .inl (cI, 40, .inl (A 3))), (q 11, .inl (cI, 40, .inl (A 4))), (q 12, .inl (cI, 40, .inl (A 5))), (q 13, .inl (cI, 40, .inl (A 6))), (q 14, .inl (cI, 40, .inl (A 7))), (q 15, .inl (cI, 60, .inl (A 8))), (q 16, .inl (cI, 60, .inl (A 9))), (q 17, .inl (cI, 61, .inl (A 10))), (q 18, .inl (cI, 61, .inl (A 11))), (q 19, .inl (cI, 61, .inl (A 12))), (q 20, .inl (cZ, 61, .inl (A 13))), (q 21, .inl (cZ, 61, .inl (A 14))), (q 22, .inl (cI, 151, .inl (A 15))), (q 23, .inl (cI, 151, .inl (A 16))), (q 24, .inl (cI, 151, .inl (A 17))), (q 25, .inl (cI, 151, .inl (A 18))), (q 26, .inl (cI, 151, .inl (A 19))), (q 27, .inl (cI, 151, .inl (A 20))), (q 28, .inl (cI, 61, .inl (A 21))), (q 29, .inl (cI, 150, .inl (A 22))), (q 30, .inl (cI, 100, .inl (A 23))), (q 31, .inl (cI, 100, .inl (A 24))), (q 32, .inl (cI, 150, .inl (A 25)))]
def mw (cI cZ : ClassId) (q : Nat → Nat) (A : Nat → Nat → Int32) : va_W := [(q 0, .inr (8, [.int (A 0 7), .int (A 0 0), .ref (q 1), .int (A 0 1), .ref (q 2), .ref (q 3), .ref (q 4), .int (A 0 2), .int (A 0 3), .ref (q 5), .ref (q 6), .ref (q 7), .int (A 0 4), .ref (q 8), .int (A 0 5), .ref (q 9), .int (A 0 6)])), (q 1, .inl (cZ, 12, .inl (A 1))), (q 2, .inl (cI, 240, .inl (mx6 (A 2) (A 3) (A 4) (A 5) (A 6) (A 7)))), (q 3, .inl (cI, 60, .inl (A 8))), (q 4, .inl (cI, 60, .inl (A 9))), (q 5, .inl (cI, 183, .inl (mx3 (A 11) (A 10) (A 12)))), (q 6, .inl (cZ, 61, .inl (A 13))), (q 7, .inl (cZ, 61, .inl (A 14))), (q 8, .inl (cI, 1208, .inl (mx8 (A 15) (A 16) (A 17) (A 18) (A 19) (A 20) (A 21) (A 22)))), (q 9, .inl (cI, 200, .inl (mx2 (A 23) (A 24))))]
/-- 0 ≤ x < n, as the class asks it; 1 ≤ x ≤ n -/
def hN (n x : Int32) : Bool := !decide (x < 0) && !decide (n ≤ x)
def h1 (n x : Int32) : Bool := !decide (x < 1) && !decide (n < x)
def dC (x : Int32) : Bool := !decide (x < 0) && !decide (99999 < x)
theorem hN_in {n x : Int32} {N : Nat} (h : hN n x = true) (hn : n.toInt ≤ N) : vp_in x N := by
  simp only [hN, Bool.and_eq_true, Bool.not_eq_true', decide_eq_false_iff_not, Int32.lt_iff_toInt_lt, Int32.le_iff_toInt_le] at h
  rw [vp_in_iff]
  have h0 : (0 : Int32).toInt = 0 := rfl
  omega
theorem h1_in {n x : Int32} {N : Nat} (h : h1 n x = true) (hn : n.toInt < N) : vp_in x N := by
  simp only [h1, Bool.and_eq_true, Bool.not_eq_true', decide_eq_false_iff_not, Int32.lt_iff_toInt_lt, Int32.le_iff_toInt_le] at h
  rw [vp_in_iff]
  have h0 : (1 : Int32).toInt = 1 := rfl
  omega
/-- a count: it lies in 0 .. N -/
def cnt (x : Int32) (N : Nat) : Prop := ∃ k : Nat, k ≤ N ∧ x = nI k
theorem cnt_le {x : Int32} {N : Nat} (h : cnt x N) (hN : N < 2 ^ 31) : x.toInt ≤ N := by
  obtain ⟨k, h1, rfl⟩ := h
  rw [nI_toInt (by omega)]
  omega
theorem cnt_lt {x : Int32} {N : Nat} (h : cnt x N) (hN : N < 2 ^ 31) : x.toInt < (N + 1 : Nat) := by
  have := cnt_le h hN
  omega
/-- room is left: the count itself is a place -/
theorem cnt_in {x : Int32} {N : Nat} (h : cnt x N) (hN : N < 2 ^ 31) (hne : ¬ x = nI N) : vp_in x N := by
  obtain ⟨k, h1, rfl⟩ := h
  have : k ≠ N := fun e => hne (by rw [e])
  exact vp_in_nI (by omega) hN
end
section
/-- the first place from k on (n places are left) where f is a and g is b; -1 if there is none -/
def x_find (f g : Nat → Int32) (a b : Int32) : Nat → Nat → Int32
  | 0, _ => -1
  | n + 1, k => if f k = a ∧ g k = b then nI k else x_find f g a b n (k + 1)
theorem x_find_s {f g : Nat → Int32} {a b : Int32} {n k : Nat} (h : k < n) : x_find f g a b (n - k) k = if f k = a ∧ g k = b then nI k else x_find f g a b (n - (k + 1)) (k + 1) := by
  obtain ⟨m, hm⟩ : ∃ m, n - k = m + 1 := ⟨n - k - 1, by omega⟩
  rw [hm, show n - (k + 1) = m by omega]
  rfl
theorem x_find_e {f g : Nat → Int32} {a b : Int32} {n : Nat} : x_find f g a b (n - n) n = -1 := by rw [Nat.sub_self]; rfl
theorem x_find_r {f g : Nat → Int32} {a b : Int32} : ∀ (n k : Nat), x_find f g a b n k = -1 ∨ ∃ j, k ≤ j ∧ j < k + n ∧ x_find f g a b n k = nI j ∧ f j = a ∧ g j = b
  | 0, _ => Or.inl rfl
  | n + 1, k => by
    unfold x_find
    split
    · rename_i h
      exact Or.inr ⟨k, Nat.le_refl _, by omega, rfl, h.1, h.2⟩
    · rcases x_find_r (f := f) (g := g) (a := a) (b := b) n (k + 1) with h | ⟨j, h1, h2, h3⟩
      · exact Or.inl h
      · exact Or.inr ⟨j, by omega, by omega, h3⟩
theorem nI_leD {a b : Nat} (h : nI a ≤ nI b) (ha : a < 2 ^ 31) (hb : b < 2 ^ 31) : a ≤ b := (nI_leI ha hb).mp h
theorem nI_nleD {a b : Nat} (h : ¬ nI a ≤ nI b) (ha : a < 2 ^ 31) (hb : b < 2 ^ 31) : b < a := by
  rcases Nat.lt_or_ge b a with q | q
  · exact q
  · exact absurd ((nI_leI ha hb).mpr q) h
theorem nI_ltD {a b : Nat} (h : nI a < nI b) (ha : a < 2 ^ 31) (hb : b < 2 ^ 31) : a < b := (nI_ltI ha hb).mp h
theorem nI_nltD {a b : Nat} (h : ¬ nI a < nI b) (ha : a < 2 ^ 31) (hb : b < 2 ^ 31) : b ≤ a := by
  rcases Nat.lt_or_ge a b with q | q
  · exact absurd ((nI_ltI ha hb).mpr q) h
  · exact q
theorem nI_neD {a b : Nat} (h : ¬ nI a = nI b) : a ≠ b := fun e => h (by rw [e])
theorem nI_eqD {a b : Nat} (h : nI a = nI b) (ha : a < 2 ^ 31) (hb : b < 2 ^ 31) : a = b := (nI_eq ha hb).mp h
theorem nI_nm1 {j : Nat} (h : j < 2 ^ 31) : ¬ nI j = -1 := fun e => by
  have h1 := nI_toInt h
  rw [e] at h1
  have : (-1 : Int32).toInt = -1 := rfl
  omega
/-- a route joins two places -/
def joC (A : Rows) (r a b : Int32) : Bool := decide (A 2 r.toNatClampNeg = a) && decide (A 3 r.toNatClampNeg = b)
/-- a route runs on a day (n days are left out) -/
def ruC (A : Rows) (n : Nat) (r d : Int32) : Bool := decide ((A 4 r.toNatClampNeg >>> ((d - d / 7 * 7) &&& 31)) &&& 1 = 1) && decide (x_find (A 8) (A 9) r d n 0 = -1)
/-- the first day from t on (k days are left) on which it runs; -1 if there is none -/
def x_fst (A : Rows) (n : Nat) (r : Int32) : Nat → Nat → Int32
  | 0, _ => -1
  | k + 1, t => if ruC A n r (nI t) = true then nI t else x_fst A n r k (t + 1)
theorem x_fst_s {A : Rows} {n : Nat} {r : Int32} {t : Nat} (h : t < 100000) : x_fst A n r (100000 - t) t = if ruC A n r (nI t) = true then nI t else x_fst A n r (100000 - (t + 1)) (t + 1) := by
  obtain ⟨m, hm⟩ : ∃ m, 100000 - t = m + 1 := ⟨100000 - t - 1, by omega⟩
  rw [hm, show 100000 - (t + 1) = m by omega]
  rfl
/-- the route that comes first: k routes are left from j on, best and its day so far -/
def x_qk (A : Rows) (n : Nat) (a b : Int32) (e : Nat) : Nat → Nat → Int32 → Int32 → Int32
  | 0, _, best, _ => best
  | k + 1, j, best, bd =>
    if joC A (nI j) a b = true then
      if (!decide (x_fst A n (nI j) (100000 - e) e = -1) && (decide (best = -1) || decide (x_fst A n (nI j) (100000 - e) e + A 5 j < bd))) = true
      then x_qk A n a b e k (j + 1) (nI j) (x_fst A n (nI j) (100000 - e) e + A 5 j) else x_qk A n a b e k (j + 1) best bd
    else x_qk A n a b e k (j + 1) best bd
theorem x_qk_s {A : Rows} {n : Nat} {a b : Int32} {e m j : Nat} {best bd : Int32} (h : j < m) : x_qk A n a b e (m - j) j best bd =
    if joC A (nI j) a b = true then
      if (!decide (x_fst A n (nI j) (100000 - e) e = -1) && (decide (best = -1) || decide (x_fst A n (nI j) (100000 - e) e + A 5 j < bd))) = true
      then x_qk A n a b e (m - (j + 1)) (j + 1) (nI j) (x_fst A n (nI j) (100000 - e) e + A 5 j) else x_qk A n a b e (m - (j + 1)) (j + 1) best bd
    else x_qk A n a b e (m - (j + 1)) (j + 1) best bd := by
  obtain ⟨k, hk⟩ : ∃ k, m - j = k + 1 := ⟨m - j - 1, by omega⟩
  rw [hk, show m - (j + 1) = k by omega]
  rfl
def uwC (A : Rows) (s : Int32) : Bool := decide (A 17 s.toNatClampNeg = 1) || decide (A 17 s.toNatClampNeg = 3)
end
section
theorem w_tr_init : y_tr_init.cls ≠ "java/lang/invoke/MethodHandle" ∧ y_tr_init.cls ≠ "java/lang/invoke/VarHandle" ∧ (parseMethodDescriptor y_tr_init.desc).map (fun d => d.parameters.length) = some 0 := by decide +kernel
theorem w_pl_init : y_pl_init.cls ≠ "java/lang/invoke/MethodHandle" ∧ y_pl_init.cls ≠ "java/lang/invoke/VarHandle" ∧ (parseMethodDescriptor y_pl_init.desc).map (fun d => d.parameters.length) = some 0 := by decide +kernel
theorem w_ro_init : y_ro_init.cls ≠ "java/lang/invoke/MethodHandle" ∧ y_ro_init.cls ≠ "java/lang/invoke/VarHandle" ∧ (parseMethodDescriptor y_ro_init.desc).map (fun d => d.parameters.length) = some 0 := by decide +kernel
theorem w_lo_init : y_lo_init.cls ≠ "java/lang/invoke/MethodHandle" ∧ y_lo_init.cls ≠ "java/lang/invoke/VarHandle" ∧ (parseMethodDescriptor y_lo_init.desc).map (fun d => d.parameters.length) = some 0 := by decide +kernel
theorem w_cp_init : y_cp_init.cls ≠ "java/lang/invoke/MethodHandle" ∧ y_cp_init.cls ≠ "java/lang/invoke/VarHandle" ∧ (parseMethodDescriptor y_cp_init.desc).map (fun d => d.parameters.length) = some 0 := by decide +kernel
theorem w_sl_init : y_sl_init.cls ≠ "java/lang/invoke/MethodHandle" ∧ y_sl_init.cls ≠ "java/lang/invoke/VarHandle" ∧ (parseMethodDescriptor y_sl_init.desc).map (fun d => d.parameters.length) = some 0 := by decide +kernel
theorem w_ld_init : y_ld_init.cls ≠ "java/lang/invoke/MethodHandle" ∧ y_ld_init.cls ≠ "java/lang/invoke/VarHandle" ∧ (parseMethodDescriptor y_ld_init.desc).map (fun d => d.parameters.length) = some 0 := by decide +kernel
theorem w_te_init : y_te_init.cls ≠ "java/lang/invoke/MethodHandle" ∧ y_te_init.cls ≠ "java/lang/invoke/VarHandle" ∧ (parseMethodDescriptor y_te_init.desc).map (fun d => d.parameters.length) = some 0 := by decide +kernel
theorem w_tr_place : y_tr_place.cls ≠ "java/lang/invoke/MethodHandle" ∧ y_tr_place.cls ≠ "java/lang/invoke/VarHandle" ∧ (parseMethodDescriptor y_tr_place.desc).map (fun d => d.parameters.length) = some 0 := by decide +kernel
theorem w_pl_add : y_pl_add.cls ≠ "java/lang/invoke/MethodHandle" ∧ y_pl_add.cls ≠ "java/lang/invoke/VarHandle" ∧ (parseMethodDescriptor y_pl_add.desc).map (fun d => d.parameters.length) = some 0 := by decide +kernel
theorem w_tr_open : y_tr_open.cls ≠ "java/lang/invoke/MethodHandle" ∧ y_tr_open.cls ≠ "java/lang/invoke/VarHandle" ∧ (parseMethodDescriptor y_tr_open.desc).map (fun d => d.parameters.length) = some 2 := by decide +kernel
theorem w_pl_has : y_pl_has.cls ≠ "java/lang/invoke/MethodHandle" ∧ y_pl_has.cls ≠ "java/lang/invoke/VarHandle" ∧ (parseMethodDescriptor y_pl_has.desc).map (fun d => d.parameters.length) = some 1 := by decide +kernel
theorem w_tr_route : y_tr_route.cls ≠ "java/lang/invoke/MethodHandle" ∧ y_tr_route.cls ≠ "java/lang/invoke/VarHandle" ∧ (parseMethodDescriptor y_tr_route.desc).map (fun d => d.parameters.length) = some 5 := by decide +kernel
theorem w_ro_add : y_ro_add.cls ≠ "java/lang/invoke/MethodHandle" ∧ y_ro_add.cls ≠ "java/lang/invoke/VarHandle" ∧ (parseMethodDescriptor y_ro_add.desc).map (fun d => d.parameters.length) = some 5 := by decide +kernel
theorem w_tr_skip : y_tr_skip.cls ≠ "java/lang/invoke/MethodHandle" ∧ y_tr_skip.cls ≠ "java/lang/invoke/VarHandle" ∧ (parseMethodDescriptor y_tr_skip.desc).map (fun d => d.parameters.length) = some 3 := by decide +kernel
theorem w_ro_has : y_ro_has.cls ≠ "java/lang/invoke/MethodHandle" ∧ y_ro_has.cls ≠ "java/lang/invoke/VarHandle" ∧ (parseMethodDescriptor y_ro_has.desc).map (fun d => d.parameters.length) = some 1 := by decide +kernel
theorem w_tr_isDay : y_tr_isDay.cls ≠ "java/lang/invoke/MethodHandle" ∧ y_tr_isDay.cls ≠ "java/lang/invoke/VarHandle" ∧ (parseMethodDescriptor y_tr_isDay.desc).map (fun d => d.parameters.length) = some 1 := by decide +kernel
theorem w_lo_add : y_lo_add.cls ≠ "java/lang/invoke/MethodHandle" ∧ y_lo_add.cls ≠ "java/lang/invoke/VarHandle" ∧ (parseMethodDescriptor y_lo_add.desc).map (fun d => d.parameters.length) = some 2 := by decide +kernel
theorem w_lo_find : y_lo_find.cls ≠ "java/lang/invoke/MethodHandle" ∧ y_lo_find.cls ≠ "java/lang/invoke/VarHandle" ∧ (parseMethodDescriptor y_lo_find.desc).map (fun d => d.parameters.length) = some 2 := by decide +kernel
theorem w_lo_remove : y_lo_remove.cls ≠ "java/lang/invoke/MethodHandle" ∧ y_lo_remove.cls ≠ "java/lang/invoke/VarHandle" ∧ (parseMethodDescriptor y_lo_remove.desc).map (fun d => d.parameters.length) = some 2 := by decide +kernel
theorem w_tr_copy : y_tr_copy.cls ≠ "java/lang/invoke/MethodHandle" ∧ y_tr_copy.cls ≠ "java/lang/invoke/VarHandle" ∧ (parseMethodDescriptor y_tr_copy.desc).map (fun d => d.parameters.length) = some 1 := by decide +kernel
theorem w_cp_add : y_cp_add.cls ≠ "java/lang/invoke/MethodHandle" ∧ y_cp_add.cls ≠ "java/lang/invoke/VarHandle" ∧ (parseMethodDescriptor y_cp_add.desc).map (fun d => d.parameters.length) = some 1 := by decide +kernel
theorem w_tr_priority : y_tr_priority.cls ≠ "java/lang/invoke/MethodHandle" ∧ y_tr_priority.cls ≠ "java/lang/invoke/VarHandle" ∧ (parseMethodDescriptor y_tr_priority.desc).map (fun d => d.parameters.length) = some 2 := by decide +kernel
theorem w_cp_has : y_cp_has.cls ≠ "java/lang/invoke/MethodHandle" ∧ y_cp_has.cls ≠ "java/lang/invoke/VarHandle" ∧ (parseMethodDescriptor y_cp_has.desc).map (fun d => d.parameters.length) = some 1 := by decide +kernel
theorem w_tr_floats : y_tr_floats.cls ≠ "java/lang/invoke/MethodHandle" ∧ y_tr_floats.cls ≠ "java/lang/invoke/VarHandle" ∧ (parseMethodDescriptor y_tr_floats.desc).map (fun d => d.parameters.length) = some 2 := by decide +kernel
theorem w_tr_send : y_tr_send.cls ≠ "java/lang/invoke/MethodHandle" ∧ y_tr_send.cls ≠ "java/lang/invoke/VarHandle" ∧ (parseMethodDescriptor y_tr_send.desc).map (fun d => d.parameters.length) = some 3 := by decide +kernel
theorem w_ro_findQuickest : y_ro_findQuickest.cls ≠ "java/lang/invoke/MethodHandle" ∧ y_ro_findQuickest.cls ≠ "java/lang/invoke/VarHandle" ∧ (parseMethodDescriptor y_ro_findQuickest.desc).map (fun d => d.parameters.length) = some 3 := by decide +kernel
theorem w_ro_joins : y_ro_joins.cls ≠ "java/lang/invoke/MethodHandle" ∧ y_ro_joins.cls ≠ "java/lang/invoke/VarHandle" ∧ (parseMethodDescriptor y_ro_joins.desc).map (fun d => d.parameters.length) = some 3 := by decide +kernel
theorem w_ro_firstRun : y_ro_firstRun.cls ≠ "java/lang/invoke/MethodHandle" ∧ y_ro_firstRun.cls ≠ "java/lang/invoke/VarHandle" ∧ (parseMethodDescriptor y_ro_firstRun.desc).map (fun d => d.parameters.length) = some 2 := by decide +kernel
theorem w_ro_runsOn : y_ro_runsOn.cls ≠ "java/lang/invoke/MethodHandle" ∧ y_ro_runsOn.cls ≠ "java/lang/invoke/VarHandle" ∧ (parseMethodDescriptor y_ro_runsOn.desc).map (fun d => d.parameters.length) = some 2 := by decide +kernel
theorem w_sl_add : y_sl_add.cls ≠ "java/lang/invoke/MethodHandle" ∧ y_sl_add.cls ≠ "java/lang/invoke/VarHandle" ∧ (parseMethodDescriptor y_sl_add.desc).map (fun d => d.parameters.length) = some 4 := by decide +kernel
theorem w_tr_back : y_tr_back.cls ≠ "java/lang/invoke/MethodHandle" ∧ y_tr_back.cls ≠ "java/lang/invoke/VarHandle" ∧ (parseMethodDescriptor y_tr_back.desc).map (fun d => d.parameters.length) = some 1 := by decide +kernel
theorem w_sl_has : y_sl_has.cls ≠ "java/lang/invoke/MethodHandle" ∧ y_sl_has.cls ≠ "java/lang/invoke/VarHandle" ∧ (parseMethodDescriptor y_sl_has.desc).map (fun d => d.parameters.length) = some 1 := by decide +kernel
theorem w_tr_bin : y_tr_bin.cls ≠ "java/lang/invoke/MethodHandle" ∧ y_tr_bin.cls ≠ "java/lang/invoke/VarHandle" ∧ (parseMethodDescriptor y_tr_bin.desc).map (fun d => d.parameters.length) = some 3 := by decide +kernel
theorem w_tr_queueBin : y_tr_queueBin.cls ≠ "java/lang/invoke/MethodHandle" ∧ y_tr_queueBin.cls ≠ "java/lang/invoke/VarHandle" ∧ (parseMethodDescriptor y_tr_queueBin.desc).map (fun d => d.parameters.length) = some 2 := by decide +kernel
theorem w_tr_enqueue : y_tr_enqueue.cls ≠ "java/lang/invoke/MethodHandle" ∧ y_tr_enqueue.cls ≠ "java/lang/invoke/VarHandle" ∧ (parseMethodDescriptor y_tr_enqueue.desc).map (fun d => d.parameters.length) = some 1 := by decide +kernel
theorem w_tr_isBefore : y_tr_isBefore.cls ≠ "java/lang/invoke/MethodHandle" ∧ y_tr_isBefore.cls ≠ "java/lang/invoke/VarHandle" ∧ (parseMethodDescriptor y_tr_isBefore.desc).map (fun d => d.parameters.length) = some 2 := by decide +kernel
theorem w_tr_load : y_tr_load.cls ≠ "java/lang/invoke/MethodHandle" ∧ y_tr_load.cls ≠ "java/lang/invoke/VarHandle" ∧ (parseMethodDescriptor y_tr_load.desc).map (fun d => d.parameters.length) = some 2 := by decide +kernel
theorem w_ld_begin : y_ld_begin.cls ≠ "java/lang/invoke/MethodHandle" ∧ y_ld_begin.cls ≠ "java/lang/invoke/VarHandle" ∧ (parseMethodDescriptor y_ld_begin.desc).map (fun d => d.parameters.length) = some 0 := by decide +kernel
theorem w_tr_queueDue : y_tr_queueDue.cls ≠ "java/lang/invoke/MethodHandle" ∧ y_tr_queueDue.cls ≠ "java/lang/invoke/VarHandle" ∧ (parseMethodDescriptor y_tr_queueDue.desc).map (fun d => d.parameters.length) = some 2 := by decide +kernel
theorem w_tr_takeFromQueue : y_tr_takeFromQueue.cls ≠ "java/lang/invoke/MethodHandle" ∧ y_tr_takeFromQueue.cls ≠ "java/lang/invoke/VarHandle" ∧ (parseMethodDescriptor y_tr_takeFromQueue.desc).map (fun d => d.parameters.length) = some 2 := by decide +kernel
theorem w_ld_put : y_ld_put.cls ≠ "java/lang/invoke/MethodHandle" ∧ y_ld_put.cls ≠ "java/lang/invoke/VarHandle" ∧ (parseMethodDescriptor y_ld_put.desc).map (fun d => d.parameters.length) = some 1 := by decide +kernel
theorem w_tr_tellQueue : y_tr_tellQueue.cls ≠ "java/lang/invoke/MethodHandle" ∧ y_tr_tellQueue.cls ≠ "java/lang/invoke/VarHandle" ∧ (parseMethodDescriptor y_tr_tellQueue.desc).map (fun d => d.parameters.length) = some 2 := by decide +kernel
theorem w_te_add : y_te_add.cls ≠ "java/lang/invoke/MethodHandle" ∧ y_te_add.cls ≠ "java/lang/invoke/VarHandle" ∧ (parseMethodDescriptor y_te_add.desc).map (fun d => d.parameters.length) = some 2 := by decide +kernel
theorem w_tr_loaded : y_tr_loaded.cls ≠ "java/lang/invoke/MethodHandle" ∧ y_tr_loaded.cls ≠ "java/lang/invoke/VarHandle" ∧ (parseMethodDescriptor y_tr_loaded.desc).map (fun d => d.parameters.length) = some 2 := by decide +kernel
theorem w_ld_has : y_ld_has.cls ≠ "java/lang/invoke/MethodHandle" ∧ y_ld_has.cls ≠ "java/lang/invoke/VarHandle" ∧ (parseMethodDescriptor y_ld_has.desc).map (fun d => d.parameters.length) = some 1 := by decide +kernel
theorem w_ld_size : y_ld_size.cls ≠ "java/lang/invoke/MethodHandle" ∧ y_ld_size.cls ≠ "java/lang/invoke/VarHandle" ∧ (parseMethodDescriptor y_ld_size.desc).map (fun d => d.parameters.length) = some 1 := by decide +kernel
theorem w_ld_slipAt : y_ld_slipAt.cls ≠ "java/lang/invoke/MethodHandle" ∧ y_ld_slipAt.cls ≠ "java/lang/invoke/VarHandle" ∧ (parseMethodDescriptor y_ld_slipAt.desc).map (fun d => d.parameters.length) = some 2 := by decide +kernel
theorem w_tr_missing : y_tr_missing.cls ≠ "java/lang/invoke/MethodHandle" ∧ y_tr_missing.cls ≠ "java/lang/invoke/VarHandle" ∧ (parseMethodDescriptor y_tr_missing.desc).map (fun d => d.parameters.length) = some 2 := by decide +kernel
theorem w_sl_isUnderWay : y_sl_isUnderWay.cls ≠ "java/lang/invoke/MethodHandle" ∧ y_sl_isUnderWay.cls ≠ "java/lang/invoke/VarHandle" ∧ (parseMethodDescriptor y_sl_isUnderWay.desc).map (fun d => d.parameters.length) = some 1 := by decide +kernel
theorem w_tr_arrive : y_tr_arrive.cls ≠ "java/lang/invoke/MethodHandle" ∧ y_tr_arrive.cls ≠ "java/lang/invoke/VarHandle" ∧ (parseMethodDescriptor y_tr_arrive.desc).map (fun d => d.parameters.length) = some 3 := by decide +kernel
theorem w_tr_lost : y_tr_lost.cls ≠ "java/lang/invoke/MethodHandle" ∧ y_tr_lost.cls ≠ "java/lang/invoke/VarHandle" ∧ (parseMethodDescriptor y_tr_lost.desc).map (fun d => d.parameters.length) = some 1 := by decide +kernel
theorem w_tr_dueDay : y_tr_dueDay.cls ≠ "java/lang/invoke/MethodHandle" ∧ y_tr_dueDay.cls ≠ "java/lang/invoke/VarHandle" ∧ (parseMethodDescriptor y_tr_dueDay.desc).map (fun d => d.parameters.length) = some 1 := by decide +kernel
theorem w_tr_slip : y_tr_slip.cls ≠ "java/lang/invoke/MethodHandle" ∧ y_tr_slip.cls ≠ "java/lang/invoke/VarHandle" ∧ (parseMethodDescriptor y_tr_slip.desc).map (fun d => d.parameters.length) = some 2 := by decide +kernel
theorem w_tr_where : y_tr_where.cls ≠ "java/lang/invoke/MethodHandle" ∧ y_tr_where.cls ≠ "java/lang/invoke/VarHandle" ∧ (parseMethodDescriptor y_tr_where.desc).map (fun d => d.parameters.length) = some 2 := by decide +kernel
theorem w_tr_told : y_tr_told.cls ≠ "java/lang/invoke/MethodHandle" ∧ y_tr_told.cls ≠ "java/lang/invoke/VarHandle" ∧ (parseMethodDescriptor y_tr_told.desc).map (fun d => d.parameters.length) = some 2 := by decide +kernel
theorem w_te_has : y_te_has.cls ≠ "java/lang/invoke/MethodHandle" ∧ y_te_has.cls ≠ "java/lang/invoke/VarHandle" ∧ (parseMethodDescriptor y_te_has.desc).map (fun d => d.parameters.length) = some 1 := by decide +kernel
theorem w_tr_statistics : y_tr_statistics.cls ≠ "java/lang/invoke/MethodHandle" ∧ y_tr_statistics.cls ≠ "java/lang/invoke/VarHandle" ∧ (parseMethodDescriptor y_tr_statistics.desc).map (fun d => d.parameters.length) = some 3 := by decide +kernel
theorem w_tr_average : y_tr_average.cls ≠ "java/lang/invoke/MethodHandle" ∧ y_tr_average.cls ≠ "java/lang/invoke/VarHandle" ∧ (parseMethodDescriptor y_tr_average.desc).map (fun d => d.parameters.length) = some 2 := by decide +kernel
theorem w_mo_init : y_mo_init.cls ≠ "java/lang/invoke/MethodHandle" ∧ y_mo_init.cls ≠ "java/lang/invoke/VarHandle" ∧ (parseMethodDescriptor y_mo_init.desc).map (fun d => d.parameters.length) = some 0 := by decide +kernel
theorem w_mo_thrown : y_mo_thrown.cls ≠ "java/lang/invoke/MethodHandle" ∧ y_mo_thrown.cls ≠ "java/lang/invoke/VarHandle" ∧ (parseMethodDescriptor y_mo_thrown.desc).map (fun d => d.parameters.length) = some 0 := by decide +kernel
theorem w_mo_place : y_mo_place.cls ≠ "java/lang/invoke/MethodHandle" ∧ y_mo_place.cls ≠ "java/lang/invoke/VarHandle" ∧ (parseMethodDescriptor y_mo_place.desc).map (fun d => d.parameters.length) = some 0 := by decide +kernel
theorem w_mo_open : y_mo_open.cls ≠ "java/lang/invoke/MethodHandle" ∧ y_mo_open.cls ≠ "java/lang/invoke/VarHandle" ∧ (parseMethodDescriptor y_mo_open.desc).map (fun d => d.parameters.length) = some 2 := by decide +kernel
theorem w_mo_isPlace : y_mo_isPlace.cls ≠ "java/lang/invoke/MethodHandle" ∧ y_mo_isPlace.cls ≠ "java/lang/invoke/VarHandle" ∧ (parseMethodDescriptor y_mo_isPlace.desc).map (fun d => d.parameters.length) = some 1 := by decide +kernel
theorem w_mo_route : y_mo_route.cls ≠ "java/lang/invoke/MethodHandle" ∧ y_mo_route.cls ≠ "java/lang/invoke/VarHandle" ∧ (parseMethodDescriptor y_mo_route.desc).map (fun d => d.parameters.length) = some 5 := by decide +kernel
theorem w_mo_skip : y_mo_skip.cls ≠ "java/lang/invoke/MethodHandle" ∧ y_mo_skip.cls ≠ "java/lang/invoke/VarHandle" ∧ (parseMethodDescriptor y_mo_skip.desc).map (fun d => d.parameters.length) = some 3 := by decide +kernel
theorem w_mo_isRoute : y_mo_isRoute.cls ≠ "java/lang/invoke/MethodHandle" ∧ y_mo_isRoute.cls ≠ "java/lang/invoke/VarHandle" ∧ (parseMethodDescriptor y_mo_isRoute.desc).map (fun d => d.parameters.length) = some 1 := by decide +kernel
theorem w_mo_isDay : y_mo_isDay.cls ≠ "java/lang/invoke/MethodHandle" ∧ y_mo_isDay.cls ≠ "java/lang/invoke/VarHandle" ∧ (parseMethodDescriptor y_mo_isDay.desc).map (fun d => d.parameters.length) = some 1 := by decide +kernel
theorem w_mo_skipped : y_mo_skipped.cls ≠ "java/lang/invoke/MethodHandle" ∧ y_mo_skipped.cls ≠ "java/lang/invoke/VarHandle" ∧ (parseMethodDescriptor y_mo_skipped.desc).map (fun d => d.parameters.length) = some 2 := by decide +kernel
theorem w_mo_copy : y_mo_copy.cls ≠ "java/lang/invoke/MethodHandle" ∧ y_mo_copy.cls ≠ "java/lang/invoke/VarHandle" ∧ (parseMethodDescriptor y_mo_copy.desc).map (fun d => d.parameters.length) = some 1 := by decide +kernel
theorem w_mo_priority : y_mo_priority.cls ≠ "java/lang/invoke/MethodHandle" ∧ y_mo_priority.cls ≠ "java/lang/invoke/VarHandle" ∧ (parseMethodDescriptor y_mo_priority.desc).map (fun d => d.parameters.length) = some 2 := by decide +kernel
theorem w_mo_isCopy : y_mo_isCopy.cls ≠ "java/lang/invoke/MethodHandle" ∧ y_mo_isCopy.cls ≠ "java/lang/invoke/VarHandle" ∧ (parseMethodDescriptor y_mo_isCopy.desc).map (fun d => d.parameters.length) = some 1 := by decide +kernel
theorem w_mo_floats : y_mo_floats.cls ≠ "java/lang/invoke/MethodHandle" ∧ y_mo_floats.cls ≠ "java/lang/invoke/VarHandle" ∧ (parseMethodDescriptor y_mo_floats.desc).map (fun d => d.parameters.length) = some 2 := by decide +kernel
theorem w_mo_send : y_mo_send.cls ≠ "java/lang/invoke/MethodHandle" ∧ y_mo_send.cls ≠ "java/lang/invoke/VarHandle" ∧ (parseMethodDescriptor y_mo_send.desc).map (fun d => d.parameters.length) = some 3 := by decide +kernel
theorem w_mo_runs : y_mo_runs.cls ≠ "java/lang/invoke/MethodHandle" ∧ y_mo_runs.cls ≠ "java/lang/invoke/VarHandle" ∧ (parseMethodDescriptor y_mo_runs.desc).map (fun d => d.parameters.length) = some 2 := by decide +kernel
theorem w_mo_back : y_mo_back.cls ≠ "java/lang/invoke/MethodHandle" ∧ y_mo_back.cls ≠ "java/lang/invoke/VarHandle" ∧ (parseMethodDescriptor y_mo_back.desc).map (fun d => d.parameters.length) = some 1 := by decide +kernel
theorem w_mo_isSlip : y_mo_isSlip.cls ≠ "java/lang/invoke/MethodHandle" ∧ y_mo_isSlip.cls ≠ "java/lang/invoke/VarHandle" ∧ (parseMethodDescriptor y_mo_isSlip.desc).map (fun d => d.parameters.length) = some 1 := by decide +kernel
theorem w_mo_bin : y_mo_bin.cls ≠ "java/lang/invoke/MethodHandle" ∧ y_mo_bin.cls ≠ "java/lang/invoke/VarHandle" ∧ (parseMethodDescriptor y_mo_bin.desc).map (fun d => d.parameters.length) = some 3 := by decide +kernel
theorem w_mo_isIn : y_mo_isIn.cls ≠ "java/lang/invoke/MethodHandle" ∧ y_mo_isIn.cls ≠ "java/lang/invoke/VarHandle" ∧ (parseMethodDescriptor y_mo_isIn.desc).map (fun d => d.parameters.length) = some 3 := by decide +kernel
theorem w_mo_isBefore : y_mo_isBefore.cls ≠ "java/lang/invoke/MethodHandle" ∧ y_mo_isBefore.cls ≠ "java/lang/invoke/VarHandle" ∧ (parseMethodDescriptor y_mo_isBefore.desc).map (fun d => d.parameters.length) = some 2 := by decide +kernel
theorem w_mo_load : y_mo_load.cls ≠ "java/lang/invoke/MethodHandle" ∧ y_mo_load.cls ≠ "java/lang/invoke/VarHandle" ∧ (parseMethodDescriptor y_mo_load.desc).map (fun d => d.parameters.length) = some 2 := by decide +kernel
theorem w_mo_put : y_mo_put.cls ≠ "java/lang/invoke/MethodHandle" ∧ y_mo_put.cls ≠ "java/lang/invoke/VarHandle" ∧ (parseMethodDescriptor y_mo_put.desc).map (fun d => d.parameters.length) = some 2 := by decide +kernel
theorem w_mo_tell : y_mo_tell.cls ≠ "java/lang/invoke/MethodHandle" ∧ y_mo_tell.cls ≠ "java/lang/invoke/VarHandle" ∧ (parseMethodDescriptor y_mo_tell.desc).map (fun d => d.parameters.length) = some 2 := by decide +kernel
theorem w_mo_loaded : y_mo_loaded.cls ≠ "java/lang/invoke/MethodHandle" ∧ y_mo_loaded.cls ≠ "java/lang/invoke/VarHandle" ∧ (parseMethodDescriptor y_mo_loaded.desc).map (fun d => d.parameters.length) = some 2 := by decide +kernel
theorem w_mo_missing : y_mo_missing.cls ≠ "java/lang/invoke/MethodHandle" ∧ y_mo_missing.cls ≠ "java/lang/invoke/VarHandle" ∧ (parseMethodDescriptor y_mo_missing.desc).map (fun d => d.parameters.length) = some 2 := by decide +kernel
theorem w_mo_arrive : y_mo_arrive.cls ≠ "java/lang/invoke/MethodHandle" ∧ y_mo_arrive.cls ≠ "java/lang/invoke/VarHandle" ∧ (parseMethodDescriptor y_mo_arrive.desc).map (fun d => d.parameters.length) = some 3 := by decide +kernel
theorem w_mo_lost : y_mo_lost.cls ≠ "java/lang/invoke/MethodHandle" ∧ y_mo_lost.cls ≠ "java/lang/invoke/VarHandle" ∧ (parseMethodDescriptor y_mo_lost.desc).map (fun d => d.parameters.length) = some 1 := by decide +kernel
theorem w_mo_slip : y_mo_slip.cls ≠ "java/lang/invoke/MethodHandle" ∧ y_mo_slip.cls ≠ "java/lang/invoke/VarHandle" ∧ (parseMethodDescriptor y_mo_slip.desc).map (fun d => d.parameters.length) = some 2 := by decide +kernel
theorem w_mo_where : y_mo_where.cls ≠ "java/lang/invoke/MethodHandle" ∧ y_mo_where.cls ≠ "java/lang/invoke/VarHandle" ∧ (parseMethodDescriptor y_mo_where.desc).map (fun d => d.parameters.length) = some 2 := by decide +kernel
theorem w_mo_statistics : y_mo_statistics.cls ≠ "java/lang/invoke/MethodHandle" ∧ y_mo_statistics.cls ≠ "java/lang/invoke/VarHandle" ∧ (parseMethodDescriptor y_mo_statistics.desc).map (fun d => d.parameters.length) = some 3 := by decide +kernel
theorem w_mo_told : y_mo_told.cls ≠ "java/lang/invoke/MethodHandle" ∧ y_mo_told.cls ≠ "java/lang/invoke/VarHandle" ∧ (parseMethodDescriptor y_mo_told.desc).map (fun d => d.parameters.length) = some 2 := by decide +kernel
theorem w_la_law : y_la_law.cls ≠ "java/lang/invoke/MethodHandle" ∧ y_la_law.cls ≠ "java/lang/invoke/VarHandle" ∧ (parseMethodDescriptor y_la_law.desc).map (fun d => d.parameters.length) = some 1 := by decide +kernel
theorem w_la_statistics : y_la_statistics.cls ≠ "java/lang/invoke/MethodHandle" ∧ y_la_statistics.cls ≠ "java/lang/invoke/VarHandle" ∧ (parseMethodDescriptor y_la_statistics.desc).map (fun d => d.parameters.length) = some 5 := by decide +kernel
end
section
theorem h1_of {n : Nat} {x : Int32} (h : h1 (nI n) x = true) (hn : n < 2 ^ 31) : ∃ k, k < n ∧ x = nI (k + 1) := by
  simp only [h1, Bool.and_eq_true, Bool.not_eq_true', decide_eq_false_iff_not] at h
  obtain ⟨j, hj, rfl⟩ := nI_of (x := x) (fun h0 => h.1 (by
    rw [Int32.lt_iff_toInt_lt] at h0 ⊢
    have e0 : (0 : Int32).toInt = 0 := rfl
    have e1 : (1 : Int32).toInt = 1 := rfl
    omega))
  have h3 := nI_nltD h.2 hn hj
  have h4 : ¬ j < 1 := fun q => h.1 (nI_lt (b := 1) q (by omega))
  exact ⟨j - 1, by omega, by rw [show j - 1 + 1 = j by omega]⟩
theorem hN_of {n : Nat} {x : Int32} (h : hN (nI n) x = true) (hn : n < 2 ^ 31) : ∃ k, k < n ∧ x = nI k := by
  simp only [hN, Bool.and_eq_true, Bool.not_eq_true', decide_eq_false_iff_not] at h
  obtain ⟨j, hj, rfl⟩ := nI_of (x := x) h.1
  exact ⟨j, nI_nleD h.2 hn hj, rfl⟩
theorem dC_of {x : Int32} (h : dC x = true) : ∃ t, t < 100000 ∧ x = nI t := by
  simp only [dC, Bool.and_eq_true, Bool.not_eq_true', decide_eq_false_iff_not] at h
  obtain ⟨j, hj, rfl⟩ := nI_of (x := x) h.1
  have := nI_nltD (a := 99999) (b := j) h.2 (by omega) hj
  exact ⟨j, by omega, rfl⟩
def isB (x : Int32) : Prop := ∃ b : Bool, x = b2 b
theorem isB_nar {x : Int32} (h : isB x) : narrow .boolean (.int x) = .int x := by obtain ⟨b, rfl⟩ := h; exact b2_nar b
/-- what stands in the class's rows lies in its bounds -/
def rgC (A : Rows) : Prop := (∀ j, vp_in (A 15 j) 61) ∧ (∀ j, vp_in (A 16 j) 40) ∧ (∀ j, vp_in (A 22 j) 151) ∧ (∀ j, vp_in (A 25 j) 151) ∧ (∀ j, vp_in (A 3 j) 12) ∧ (∀ j, isB (A 1 j)) ∧ (∀ j, isB (A 13 j)) ∧ (∀ j, isB (A 14 j))
/-- the order of a bin, as an int -/
def bfI (A : Rows) (x y : Int32) : Int32 :=
  if A 13 (A 15 x.toNatClampNeg).toNatClampNeg = A 13 (A 15 y.toNatClampNeg).toNatClampNeg then
    if A 19 x.toNatClampNeg = A 19 y.toNatClampNeg then b2 (decide (x < y)) else b2 (decide (A 19 x.toNatClampNeg < A 19 y.toNatClampNeg))
  else A 13 (A 15 x.toNatClampNeg).toNatClampNeg
def duC (A : Rows) (x : Int32) : Int32 := A 19 x.toNatClampNeg + A 5 (A 16 x.toNatClampNeg).toNatClampNeg
end
section
/-- the best route is one of those that are there -/
theorem x_qk_r {A : Rows} {n : Nat} {a b : Int32} {e : Nat} : ∀ (k j : Nat) (best bd : Int32), (best = -1 ∨ ∃ i, i < j ∧ best = nI i) → x_qk A n a b e k j best bd = -1 ∨ ∃ i, i < j + k ∧ x_qk A n a b e k j best bd = nI i
  | 0, j, best, bd, h => h
  | k + 1, j, best, bd, h => by
    have h1 : best = -1 ∨ ∃ i, i < j + 1 ∧ best = nI i := h.imp id (fun ⟨i, p, q⟩ => ⟨i, by omega, q⟩)
    have h2 : nI j = -1 ∨ ∃ i, i < j + 1 ∧ nI j = nI i := Or.inr ⟨j, by omega, rfl⟩
    have e1 : j + (k + 1) = j + 1 + k := by omega
    rw [e1]
    unfold x_qk
    split
    · split
      · exact x_qk_r k (j + 1) _ _ h2
      · exact x_qk_r k (j + 1) _ _ h1
    · exact x_qk_r k (j + 1) _ _ h1
def eS (A : Rows) (x d : Int32) : Nat := if A 13 x.toNatClampNeg = 0 then d.toNatClampNeg + 1 else d.toNatClampNeg
def bS (A : Rows) (nR nX : Nat) (x y d : Int32) : Int32 := x_qk A nX (A 11 x.toNatClampNeg) y (eS A x d) nR 0 (-1) 0
def okS (A : Rows) (nP nC nS : Nat) (x y d : Int32) : Bool := h1 (nI nC) x && hN (nI nP) y && dC d && decide (A 12 x.toNatClampNeg = 0) && !decide (A 11 x.toNatClampNeg = y) && !decide (nS = 150)
def s_send (A : Rows) (nP nR nX nC nS : Nat) (x y d : Int32) : Int32 × Rows :=
  if okS A nP nC nS x y d = true then
    if A 1 y.toNatClampNeg = 0 then (-2, A)
    else if bS A nR nX x y d = -1 then (-3, A)
    else (nI (nS + 1), (ua (ua (ua (ua (ua (ua (ua (ua A 0 (uz (A 0) 4 (nI (nS + 1)))) 12 (upd (A 12) x.toNatClampNeg (nI (nS + 1)))) 15 (upd (A 15) (nS + 1) x)) 16 (upd (A 16) (nS + 1) (bS A nR nX x y d))) 17 (upd (A 17) (nS + 1) 0)) 18 (upd (A 18) (nS + 1) d)) 19 (upd (A 19) (nS + 1) (x_fst A nX (bS A nR nX x y d) (100000 - eS A x d) (eS A x d)))) 20 (upd (A 20) (nS + 1) (-1))))
  else (0, A)
def s_back (A : Rows) (nS : Nat) (x : Int32) : Int32 × Rows :=
  if (h1 (nI nS) x && decide (A 17 x.toNatClampNeg = 0)) = true then (1, (ua (ua A 12 (upd (A 12) (A 15 x.toNatClampNeg).toNatClampNeg 0)) 17 (upd (A 17) x.toNatClampNeg 5))) else (0, A)
def okA (A : Rows) (nP nS : Nat) (x y d : Int32) : Bool := h1 (nI nS) x && hN (nI nP) y && dC d && uwC A x && decide (A 19 x.toNatClampNeg ≤ d)
def s_arr (A : Rows) (nP nS : Nat) (x y d : Int32) : Int32 × Rows :=
  if okA A nP nS x y d = true then
    if A 3 (A 16 x.toNatClampNeg).toNatClampNeg = y then
      if A 14 (A 15 x.toNatClampNeg).toNatClampNeg = 0 then (1, (ua (ua (ua (ua A 11 (upd (A 11) (A 15 x.toNatClampNeg).toNatClampNeg y)) 12 (upd (A 12) (A 15 x.toNatClampNeg).toNatClampNeg 0)) 17 (upd (A 17) x.toNatClampNeg 2)) 20 (upd (A 20) x.toNatClampNeg d))) else (1, (ua (ua (ua (ua (ua A 10 (upd (A 10) (A 15 x.toNatClampNeg).toNatClampNeg y)) 11 (upd (A 11) (A 15 x.toNatClampNeg).toNatClampNeg y)) 12 (upd (A 12) (A 15 x.toNatClampNeg).toNatClampNeg 0)) 17 (upd (A 17) x.toNatClampNeg 2)) 20 (upd (A 20) x.toNatClampNeg d)))
    else (-1, (ua (ua (ua (ua A 11 (upd (A 11) (A 15 x.toNatClampNeg).toNatClampNeg y)) 12 (upd (A 12) (A 15 x.toNatClampNeg).toNatClampNeg 0)) 17 (upd (A 17) x.toNatClampNeg 4)) 20 (upd (A 20) x.toNatClampNeg d)))
  else (0, A)
/-- from slip j on, k slips: c lost so far, f the states -/
def x_lost (A : Rows) (d : Int32) : Nat → Nat → Int32 → (Nat → Int32) → Int32 × (Nat → Int32)
  | 0, _, c, f => (c, f)
  | k + 1, j, c, f => if f j = 1 ∧ 14 < d - duC A (nI j) then x_lost A d k (j + 1) (c + 1) (upd f j 3) else x_lost A d k (j + 1) c f
theorem x_lost_s {A : Rows} {d : Int32} {n j : Nat} {c : Int32} {f : Nat → Int32} (h : j ≤ n) : x_lost A d (n + 1 - j) j c f = if f j = 1 ∧ 14 < d - duC A (nI j) then x_lost A d (n + 1 - (j + 1)) (j + 1) (c + 1) (upd f j 3) else x_lost A d (n + 1 - (j + 1)) (j + 1) c f := by
  obtain ⟨m, hm⟩ : ∃ m, n + 1 - j = m + 1 := ⟨n - j, by omega⟩
  rw [hm, show n + 1 - (j + 1) = m by omega]
  rfl
def o_slip (A : Rows) (nS : Nat) (x w : Int32) : Int32 :=
  if h1 (nI nS) x = true then
    if w = 0 then A 15 x.toNatClampNeg else if w = 1 then A 16 x.toNatClampNeg else if w = 2 then A 17 x.toNatClampNeg else if w = 3 then A 18 x.toNatClampNeg else if w = 4 then A 19 x.toNatClampNeg else if w = 5 then duC A x else if w = 6 then A 20 x.toNatClampNeg else -1
  else -1
def o_wh (A : Rows) (nC : Nat) (x w : Int32) : Int32 :=
  if h1 (nI nC) x = true then
    if w = 0 then (if A 12 x.toNatClampNeg = 0 then A 11 x.toNatClampNeg else -1) else if w = 1 then A 10 x.toNatClampNeg else if w = 2 then A 12 x.toNatClampNeg else -1
  else -1
def o_told (A : Rows) (nT : Nat) (x w : Int32) : Int32 :=
  if hN (nI nT) x = true then if w = 0 then A 23 x.toNatClampNeg else if w = 1 then A 24 x.toNatClampNeg else -1 else -1
/-- where the loads end: row 21 holds E, that grows, up to 150 -/
def enC (A : Rows) (nL : Nat) (E : Nat → Nat) : Prop := (∀ k, k ≤ nL → A 21 k = nI (E k)) ∧ (∀ k, k < nL → E k ≤ E (k + 1)) ∧ E nL ≤ 150
theorem enC_le {A : Rows} {nL : Nat} {E : Nat → Nat} (h : enC A nL E) : ∀ k, k ≤ nL → E k ≤ 150 := fun k hk => by
  have key : ∀ d k, k + d = nL → E k ≤ E nL := by
    intro d
    induction d with
    | zero => intro k hk; rw [show k = nL by omega]; exact Nat.le_refl _
    | succ d ih => intro k hk; exact Nat.le_trans (h.2.1 k (by omega)) (ih (k + 1) (by omega))
  exact Nat.le_trans (key (nL - k) k (by omega)) h.2.2
theorem enC_in {A : Rows} {nL : Nat} {E : Nat → Nat} (h : enC A nL E) {k : Nat} (hk : k < nL) {i : Int32} (h0 : ¬ i < 0) (h1 : i < A 21 (k + 1) - A 21 k) : vp_in (A 21 k + i) 150 := by
  have a1 := enC_le h (k + 1) (by omega)
  have a2 := enC_le h k (by omega)
  rw [h.1 k (by omega), h.1 (k + 1) (by omega), pk_sub (h.2.1 k hk)] at h1
  obtain ⟨j, hj, rfl⟩ := nI_of h0
  have := nI_ltD h1 hj (by omega)
  rw [h.1 k (by omega), nI_add]
  exact vp_in_nI (by omega) (by omega)
def o_ld (A : Rows) (nL : Nat) (x i : Int32) : Int32 :=
  if (h1 (nI nL) x && !decide (i < 0) && decide (i < A 21 x.toNatClampNeg - A 21 (x.toNatClampNeg - 1))) = true then A 22 (A 21 (x.toNatClampNeg - 1) + i).toNatClampNeg else 0
def x_mis (A : Rows) (k0 : Nat) (i : Int32) : Nat → Nat → Int32 → Int32
  | 0, _, _ => 0
  | m + 1, k, b => if uwC A (A 22 (A 21 k0 + nI k).toNatClampNeg) = true then (if b = i then A 22 (A 21 k0 + nI k).toNatClampNeg else x_mis A k0 i m (k + 1) (b + 1)) else x_mis A k0 i m (k + 1) b
theorem x_mis_s {A : Rows} {k0 : Nat} {i b : Int32} {n k : Nat} (h : k < n) : x_mis A k0 i (n - k) k b = if uwC A (A 22 (A 21 k0 + nI k).toNatClampNeg) = true then (if b = i then A 22 (A 21 k0 + nI k).toNatClampNeg else x_mis A k0 i (n - (k + 1)) (k + 1) (b + 1)) else x_mis A k0 i (n - (k + 1)) (k + 1) b := by
  obtain ⟨m, hm⟩ : ∃ m, n - k = m + 1 := ⟨n - k - 1, by omega⟩
  rw [hm, show n - (k + 1) = m by omega]
  rfl
def o_mis (A : Rows) (nL : Nat) (E : Nat → Nat) (x i : Int32) : Int32 :=
  if (h1 (nI nL) x && !decide (i < 0)) = true then x_mis A (x.toNatClampNeg - 1) i (E x.toNatClampNeg - E (x.toNatClampNeg - 1)) 0 0 else 0
theorem sw_lk {a b : Int} {x : Int32} {p q dflt : Int} (h1 : ¬ x.toInt = a) (h2 : ¬ x.toInt = b) : Op.lookupswitch.offset [(a, p), (b, q)] dflt x.toInt = dflt := by
  simp [Op.lookupswitch.offset, List.find?, h1, h2, Ne.symm h1, Ne.symm h2, eq_comm]
theorem i3_ne {x c : Int32} {z : Int} (h : ¬ x = c) (e : c.toInt = z) : ¬ x.toInt = z := fun q => h (Int32.toInt_inj.mp (q.trans e.symm))
end
section
/-- a slip comes into the queue f of k: from the end on, as long as it goes before -/
def x_enq (A : Rows) (s : Int32) : Nat → (Nat → Int32) → (Nat → Int32)
  | 0, f => upd f 0 s
  | k + 1, f => if bfI A s (f k) = 0 then upd f (k + 1) s else x_enq A s k (upd f (k + 1) (f k))
theorem x_enq_in {A : Rows} {s : Int32} (hs : vp_in s 151) : ∀ (k : Nat) (f : Nat → Int32), (∀ j, vp_in (f j) 151) → ∀ j, vp_in (x_enq A s k f j) 151
  | 0, f, h => fun j => by
    unfold x_enq upd
    split
    · exact hs
    · exact h j
  | k + 1, f, h => fun j => by
    unfold x_enq
    split
    · unfold upd
      split
      · exact hs
      · exact h j
    · refine x_enq_in hs k _ (fun i => ?_) j
      unfold upd
      split
      · exact h k
      · exact h i
/-- slips j, j + 1, .. (k of them) for which P holds come into the queue f of n -/
def x_qu (A : Rows) (P : Nat → Bool) : Nat → Nat → Nat → (Nat → Int32) → Nat × (Nat → Int32)
  | 0, _, n, f => (n, f)
  | k + 1, j, n, f => if P j = true then x_qu A P k (j + 1) (n + 1) (x_enq A (nI j) n f) else x_qu A P k (j + 1) n f
theorem x_qu_s {A : Rows} {P : Nat → Bool} {m j n : Nat} {f : Nat → Int32} (h : j ≤ m) : x_qu A P (m + 1 - j) j n f = if P j = true then x_qu A P (m + 1 - (j + 1)) (j + 1) (n + 1) (x_enq A (nI j) n f) else x_qu A P (m + 1 - (j + 1)) (j + 1) n f := by
  obtain ⟨k, hk⟩ : ∃ k, m + 1 - j = k + 1 := ⟨m - j, by omega⟩
  rw [hk, show m + 1 - (j + 1) = k by omega]
  rfl
theorem x_qu_in {A : Rows} {P : Nat → Bool} : ∀ (k j n : Nat) (f : Nat → Int32), j + k ≤ 151 → (∀ j, vp_in (f j) 151) → ∀ i, vp_in ((x_qu A P k j n f).2 i) 151
  | 0, _, _, _, _, h => h
  | k + 1, j, n, f, hj, h => by
    unfold x_qu
    split
    · exact x_qu_in k (j + 1) _ _ (by omega) (x_enq_in (vp_in_nI (by omega) (by omega)) n f h)
    · exact x_qu_in k (j + 1) _ _ (by omega) h
theorem x_qu_n {A : Rows} {P : Nat → Bool} : ∀ (k j n : Nat) (f : Nat → Int32), n ≤ (x_qu A P k j n f).1 ∧ (x_qu A P k j n f).1 ≤ n + k
  | 0, _, n, _ => ⟨Nat.le_refl _, Nat.le_refl _⟩
  | k + 1, j, n, f => by
    unfold x_qu
    split
    · have := x_qu_n (A := A) (P := P) k (j + 1) (n + 1) (x_enq A (nI j) n f)
      omega
    · have := x_qu_n (A := A) (P := P) k (j + 1) n f
      omega
def pBin (A : Rows) (a b : Int32) (j : Nat) : Bool := decide (A 17 j = 0) && joC A (A 16 j) a b
def pDue (A : Rows) (x d : Int32) (j : Nat) : Bool := decide (A 17 j = 0) && decide (A 16 j = x) && decide (A 19 j ≤ d)
def teN (n : Nat) : Nat := if n < 100 then n + 1 else n
def teG (n : Nat) (x : Int32) (g : Nat → Int32) : Nat → Int32 := if n < 100 then upd g n x else g
/-- what stands in the queue from k on (m of it) is told: n told so far -/
def x_te (w : Int32) (f : Nat → Int32) : Nat → Nat → Nat → (Nat → Int32) → (Nat → Int32) → Nat × (Nat → Int32) × (Nat → Int32)
  | 0, _, n, g, h => (n, g, h)
  | m + 1, k, n, g, h => x_te w f m (k + 1) (teN n) (teG n w g) (teG n (f k) h)
theorem teN_le {n : Nat} (h : n ≤ 100) : teN n ≤ 100 := by unfold teN; split <;> omega
theorem x_te_s {w : Int32} {f g h : Nat → Int32} {m k n : Nat} (hk : k < m) : x_te w f (m - k) k n g h = x_te w f (m - (k + 1)) (k + 1) (teN n) (teG n w g) (teG n (f k) h) := by
  obtain ⟨i, hi⟩ : ∃ i, m - k = i + 1 := ⟨m - k - 1, by omega⟩
  rw [hi, show m - (k + 1) = i by omega]
  rfl
theorem x_te_n {w : Int32} {f : Nat → Int32} : ∀ (m k n : Nat) (g h : Nat → Int32), n ≤ 100 → (x_te w f m k n g h).1 ≤ 100
  | 0, _, _, _, _, hn => hn
  | m + 1, k, n, g, h, hn => by
    unfold x_te
    exact x_te_n m (k + 1) _ _ _ (teN_le hn)
/-- what stands in the queue from k on (m of it) is loaded: states, days to go, cargo, its end -/
def x_ta (d : Int32) (f : Nat → Int32) : Nat → Nat → Nat → (Nat → Int32) → (Nat → Int32) → (Nat → Int32) → Nat × (Nat → Int32) × (Nat → Int32) × (Nat → Int32)
  | 0, _, e, s, g, c => (e, s, g, c)
  | m + 1, k, e, s, g, c => x_ta d f m (k + 1) (e + 1) (upd s (f k).toNatClampNeg 1) (upd g (f k).toNatClampNeg d) (upd c e (f k))
theorem x_ta_s {d : Int32} {f s g c : Nat → Int32} {m k e : Nat} (hk : k < m) : x_ta d f (m - k) k e s g c = x_ta d f (m - (k + 1)) (k + 1) (e + 1) (upd s (f k).toNatClampNeg 1) (upd g (f k).toNatClampNeg d) (upd c e (f k)) := by
  obtain ⟨i, hi⟩ : ∃ i, m - k = i + 1 := ⟨m - k - 1, by omega⟩
  rw [hi, show m - (k + 1) = i by omega]
  rfl
theorem up_in {f : Nat → Int32} {k N : Nat} {x : Int32} (h : ∀ j, vp_in (f j) N) (hx : vp_in x N) : ∀ j, vp_in (upd f k x j) N := fun j => by
  unfold upd
  split
  · exact hx
  · exact h j
theorem x_enq_c {A B : Rows} (h : ∀ x y, bfI A x y = bfI B x y) (s : Int32) : ∀ (k : Nat) (f : Nat → Int32), x_enq A s k f = x_enq B s k f
  | 0, _ => rfl
  | k + 1, f => by
    unfold x_enq
    rw [h, x_enq_c h s k]
theorem x_qu_c {A B : Rows} (h : ∀ x y, bfI A x y = bfI B x y) (P : Nat → Bool) : ∀ (k j n : Nat) (f : Nat → Int32), x_qu A P k j n f = x_qu B P k j n f
  | 0, _, _, _ => rfl
  | k + 1, j, n, f => by
    unfold x_qu
    rw [x_enq_c h, x_qu_c h P k, x_qu_c h P k]
theorem ar_dec (k : Nat) : nI (k + 1) + Int32.ofInt (-1) = nI k := pk_m1 k
theorem uu_ (f : Nat → Int32) (k : Nat) (x y : Int32) : upd (upd f k x) k y = upd f k y := by
  funext j
  unfold upd
  split <;> rfl
theorem us_ (f : Nat → Int32) (k : Nat) : upd f k (f k) = f := by
  funext j
  unfold upd
  split
  · rename_i h; rw [h]
  · rfl
theorem rgC_25 {A : Rows} {z f : Nat → Int32} (h : rgC A) (hf : ∀ j, vp_in (f j) 151) : rgC (ua (ua A 0 z) 25 f) := ⟨h.1, h.2.1, h.2.2.1, hf, h.2.2.2.2⟩
end
section
def quD (A : Rows) (nS : Nat) (x d : Int32) : Nat × (Nat → Int32) := x_qu A (pDue A x d) nS 1 0 (A 25)
def okL (A : Rows) (nR nX nL : Nat) (x d : Int32) : Bool := hN (nI nR) x && dC d && ruC A nX x d && !decide (d ≤ A 7 x.toNatClampNeg) && !decide (nL = 60)
def s_load (A : Rows) (nR nX nS nL nT e0 rm : Nat) (x d : Int32) : Int32 × Rows :=
  if okL A nR nX nL x d = true then (nI (nL + 1), if A 1 (A 3 x.toNatClampNeg).toNatClampNeg = 0 then (ua (ua (ua (ua (ua (ua A 0 (uz (uz (uz (A 0) 5 (nI (nL + 1))) 7 (nI (quD A nS x d).1)) 6 (nI (x_te 1 (quD A nS x d).2 ((quD A nS x d).1 - 0) 0 nT (A 23) (A 24)).1))) 7 (upd (A 7) x.toNatClampNeg d)) 21 (upd (A 21) (nL + 1) (A 21 nL))) 23 ((x_te 1 (quD A nS x d).2 ((quD A nS x d).1 - 0) 0 nT (A 23) (A 24)).2.1)) 24 ((x_te 1 (quD A nS x d).2 ((quD A nS x d).1 - 0) 0 nT (A 23) (A 24)).2.2)) 25 ((quD A nS x d).2)) else (ua (ua (ua (ua (ua (ua (ua (ua (ua A 0 (uz (uz (uz (A 0) 5 (nI (nL + 1))) 7 (nI (quD A nS x d).1)) 6 (nI (x_te 2 (quD A nS x d).2 ((quD A nS x d).1 - min (quD A nS x d).1 rm) (min (quD A nS x d).1 rm) nT (A 23) (A 24)).1))) 7 (upd (A 7) x.toNatClampNeg d)) 17 ((x_ta d (quD A nS x d).2 (min (quD A nS x d).1 rm) 0 e0 (A 17) (A 19) (A 22)).2.1)) 19 ((x_ta d (quD A nS x d).2 (min (quD A nS x d).1 rm) 0 e0 (A 17) (A 19) (A 22)).2.2.1)) 21 (upd (A 21) (nL + 1) (nI (x_ta d (quD A nS x d).2 (min (quD A nS x d).1 rm) 0 e0 (A 17) (A 19) (A 22)).1))) 22 ((x_ta d (quD A nS x d).2 (min (quD A nS x d).1 rm) 0 e0 (A 17) (A 19) (A 22)).2.2.2)) 23 ((x_te 2 (quD A nS x d).2 ((quD A nS x d).1 - min (quD A nS x d).1 rm) (min (quD A nS x d).1 rm) nT (A 23) (A 24)).2.1)) 24 ((x_te 2 (quD A nS x d).2 ((quD A nS x d).1 - min (quD A nS x d).1 rm) (min (quD A nS x d).1 rm) nT (A 23) (A 24)).2.2)) 25 ((quD A nS x d).2))) else (0, A)
theorem mn_ {a b : Nat} (ha : a < 2 ^ 31) (hb : b < 2 ^ 31) : (if nI b < nI a then nI b else nI a) = nI (min a b) := by
  split
  · rename_i h
    have := nI_ltD h hb ha
    rw [Nat.min_eq_right (by omega)]
  · rename_i h
    have := nI_nltD h hb ha
    rw [Nat.min_eq_left (by omega)]
end
section
set_option maxRecDepth 100000 in
set_option maxHeartbeats 4000000 in
theorem c_pl_has (l : Launch) (D : va_G) (cI cZ : ClassId) (q : Nat → Nat) (A : Rows) (x : Int32) : mt_I l D cls_ [(cI, .int), (cZ, .boolean)] nst_ y_pl_has (Cond.code y_pl_has b_pl_has 2 (some .boolean) :: gt_) (rmd 0) [.ref (q 1), .int x] (tw cI cZ q A) (fun r u => r = b2 (hN (A 0 0) x) ∧ u = tw cI cZ q A) := by
  refine mt_I_of (by decide) (Nat.le_of_ble_eq_true rfl) ?_
  intro p e s m below meth c AA X hr hlk
  refine jj_lve (lv' := [(0, .ref (q 1)), (1, .int x)]) rfl ?_
  refine jj_iload_n X d_pl_has_0 1 rfl 1 rfl ?_
  refine jj_if_lt X d_pl_has_1 16 4 (by decide) rfl (fun c1 => ?_) (fun c1 => ?_)
  · refine jj_iconst (v := 0) X d_pl_has_16 17 rfl (by decide) ?_
    exact jj_zret X hr hlk d_pl_has_17 (rfl) (⟨by simp [hN, b2, *], rfl⟩)
  · refine jj_iload_n X d_pl_has_4 5 rfl 1 rfl ?_
    refine jj_aload_n X d_pl_has_5 6 rfl 0 rfl ?_
    refine jj_get (v := .int (A 0 0)) X d_pl_has_6 9 rfl i_pl 1 f_pl_15 1 rfl rfl (by decide) rfl rfl ?_
    refine jj_icmp_ge X d_pl_has_9 16 12 (by decide) rfl (fun c9 => ?_) (fun c9 => ?_)
    · refine jj_iconst (v := 0) X d_pl_has_16 17 rfl (by decide) ?_
      exact jj_zret X hr hlk d_pl_has_17 (rfl) (⟨by simp [hN, b2, *], rfl⟩)
    · refine jj_iconst (v := 1) X d_pl_has_12 13 rfl (by decide) ?_
      refine jj_goto X d_pl_has_13 17 (by decide) ?_
      exact jj_zret X hr hlk d_pl_has_17 (rfl) (⟨by simp [hN, b2, *], rfl⟩)
set_option maxRecDepth 100000 in
set_option maxHeartbeats 4000000 in
theorem c_ro_has (l : Launch) (D : va_G) (cI cZ : ClassId) (q : Nat → Nat) (A : Rows) (x : Int32) : mt_I l D cls_ [(cI, .int), (cZ, .boolean)] nst_ y_ro_has (Cond.code y_ro_has b_ro_has 2 (some .boolean) :: gt_) (rmd 0) [.ref (q 2), .int x] (tw cI cZ q A) (fun r u => r = b2 (hN (A 0 1) x) ∧ u = tw cI cZ q A) := by
  refine mt_I_of (by decide) (Nat.le_of_ble_eq_true rfl) ?_
  intro p e s m below meth c AA X hr hlk
  refine jj_lve (lv' := [(0, .ref (q 2)), (1, .int x)]) rfl ?_
  refine jj_iload_n X d_ro_has_0 1 rfl 1 rfl ?_
  refine jj_if_lt X d_ro_has_1 16 4 (by decide) rfl (fun c1 => ?_) (fun c1 => ?_)
  · refine jj_iconst (v := 0) X d_ro_has_16 17 rfl (by decide) ?_
    exact jj_zret X hr hlk d_ro_has_17 (rfl) (⟨by simp [hN, b2, *], rfl⟩)
  · refine jj_iload_n X d_ro_has_4 5 rfl 1 rfl ?_
    refine jj_aload_n X d_ro_has_5 6 rfl 0 rfl ?_
    refine jj_get (v := .int (A 0 1)) X d_ro_has_6 9 rfl i_ro 7 f_ro_37 2 rfl rfl (by decide) rfl rfl ?_
    refine jj_icmp_ge X d_ro_has_9 16 12 (by decide) rfl (fun c9 => ?_) (fun c9 => ?_)
    · refine jj_iconst (v := 0) X d_ro_has_16 17 rfl (by decide) ?_
      exact jj_zret X hr hlk d_ro_has_17 (rfl) (⟨by simp [hN, b2, *], rfl⟩)
    · refine jj_iconst (v := 1) X d_ro_has_12 13 rfl (by decide) ?_
      refine jj_goto X d_ro_has_13 17 (by decide) ?_
      exact jj_zret X hr hlk d_ro_has_17 (rfl) (⟨by simp [hN, b2, *], rfl⟩)
set_option maxRecDepth 100000 in
set_option maxHeartbeats 4000000 in
theorem c_cp_has (l : Launch) (D : va_G) (cI cZ : ClassId) (q : Nat → Nat) (A : Rows) (x : Int32) : mt_I l D cls_ [(cI, .int), (cZ, .boolean)] nst_ y_cp_has (Cond.code y_cp_has b_cp_has 2 (some .boolean) :: gt_) (rmd 0) [.ref (q 4), .int x] (tw cI cZ q A) (fun r u => r = b2 (h1 (A 0 3) x) ∧ u = tw cI cZ q A) := by
  refine mt_I_of (by decide) (Nat.le_of_ble_eq_true rfl) ?_
  intro p e s m below meth c AA X hr hlk
  refine jj_lve (lv' := [(0, .ref (q 4)), (1, .int x)]) rfl ?_
  refine jj_iload_n X d_cp_has_0 1 rfl 1 rfl ?_
  refine jj_iconst (v := 1) X d_cp_has_1 2 rfl (by decide) ?_
  refine jj_icmp_lt X d_cp_has_2 17 5 (by decide) rfl (fun c2 => ?_) (fun c2 => ?_)
  · refine jj_iconst (v := 0) X d_cp_has_17 18 rfl (by decide) ?_
    exact jj_zret X hr hlk d_cp_has_18 (rfl) (⟨by simp [h1, b2, *], rfl⟩)
  · refine jj_iload_n X d_cp_has_5 6 rfl 1 rfl ?_
    refine jj_aload_n X d_cp_has_6 7 rfl 0 rfl ?_
    refine jj_get (v := .int (A 0 3)) X d_cp_has_7 10 rfl i_cp 5 f_cp_28 4 rfl rfl (by decide) rfl rfl ?_
    refine jj_icmp_gt X d_cp_has_10 17 13 (by decide) rfl (fun c10 => ?_) (fun c10 => ?_)
    · refine jj_iconst (v := 0) X d_cp_has_17 18 rfl (by decide) ?_
      exact jj_zret X hr hlk d_cp_has_18 (rfl) (⟨by simp [h1, b2, *], rfl⟩)
    · refine jj_iconst (v := 1) X d_cp_has_13 14 rfl (by decide) ?_
      refine jj_goto X d_cp_has_14 18 (by decide) ?_
      exact jj_zret X hr hlk d_cp_has_18 (rfl) (⟨by simp [h1, b2, *], rfl⟩)
set_option maxRecDepth 100000 in
set_option maxHeartbeats 4000000 in
theorem c_sl_has (l : Launch) (D : va_G) (cI cZ : ClassId) (q : Nat → Nat) (A : Rows) (x : Int32) : mt_I l D cls_ [(cI, .int), (cZ, .boolean)] nst_ y_sl_has (Cond.code y_sl_has b_sl_has 2 (some .boolean) :: gt_) (rmd 0) [.ref (q 5), .int x] (tw cI cZ q A) (fun r u => r = b2 (h1 (A 0 4) x) ∧ u = tw cI cZ q A) := by
  refine mt_I_of (by decide) (Nat.le_of_ble_eq_true rfl) ?_
  intro p e s m below meth c AA X hr hlk
  refine jj_lve (lv' := [(0, .ref (q 5)), (1, .int x)]) rfl ?_
  refine jj_iload_n X d_sl_has_0 1 rfl 1 rfl ?_
  refine jj_iconst (v := 1) X d_sl_has_1 2 rfl (by decide) ?_
  refine jj_icmp_lt X d_sl_has_2 17 5 (by decide) rfl (fun c2 => ?_) (fun c2 => ?_)
  · refine jj_iconst (v := 0) X d_sl_has_17 18 rfl (by decide) ?_
    exact jj_zret X hr hlk d_sl_has_18 (rfl) (⟨by simp [h1, b2, *], rfl⟩)
  · refine jj_iload_n X d_sl_has_5 6 rfl 1 rfl ?_
    refine jj_aload_n X d_sl_has_6 7 rfl 0 rfl ?_
    refine jj_get (v := .int (A 0 4)) X d_sl_has_7 10 rfl i_sl 6 f_sl_30 5 rfl rfl (by decide) rfl rfl ?_
    refine jj_icmp_gt X d_sl_has_10 17 13 (by decide) rfl (fun c10 => ?_) (fun c10 => ?_)
    · refine jj_iconst (v := 0) X d_sl_has_17 18 rfl (by decide) ?_
      exact jj_zret X hr hlk d_sl_has_18 (rfl) (⟨by simp [h1, b2, *], rfl⟩)
    · refine jj_iconst (v := 1) X d_sl_has_13 14 rfl (by decide) ?_
      refine jj_goto X d_sl_has_14 18 (by decide) ?_
      exact jj_zret X hr hlk d_sl_has_18 (rfl) (⟨by simp [h1, b2, *], rfl⟩)
set_option maxRecDepth 100000 in
set_option maxHeartbeats 4000000 in
theorem c_ld_has (l : Launch) (D : va_G) (cI cZ : ClassId) (q : Nat → Nat) (A : Rows) (x : Int32) : mt_I l D cls_ [(cI, .int), (cZ, .boolean)] nst_ y_ld_has (Cond.code y_ld_has b_ld_has 2 (some .boolean) :: gt_) (rmd 0) [.ref (q 6), .int x] (tw cI cZ q A) (fun r u => r = b2 (h1 (A 0 5) x) ∧ u = tw cI cZ q A) := by
  refine mt_I_of (by decide) (Nat.le_of_ble_eq_true rfl) ?_
  intro p e s m below meth c AA X hr hlk
  refine jj_lve (lv' := [(0, .ref (q 6)), (1, .int x)]) rfl ?_
  refine jj_iload_n X d_ld_has_0 1 rfl 1 rfl ?_
  refine jj_iconst (v := 1) X d_ld_has_1 2 rfl (by decide) ?_
  refine jj_icmp_lt X d_ld_has_2 17 5 (by decide) rfl (fun c2 => ?_) (fun c2 => ?_)
  · refine jj_iconst (v := 0) X d_ld_has_17 18 rfl (by decide) ?_
    exact jj_zret X hr hlk d_ld_has_18 (rfl) (⟨by simp [h1, b2, *], rfl⟩)
  · refine jj_iload_n X d_ld_has_5 6 rfl 1 rfl ?_
    refine jj_aload_n X d_ld_has_6 7 rfl 0 rfl ?_
    refine jj_get (v := .int (A 0 5)) X d_ld_has_7 10 rfl i_ld 2 f_ld_18 6 rfl rfl (by decide) rfl rfl ?_
    refine jj_icmp_gt X d_ld_has_10 17 13 (by decide) rfl (fun c10 => ?_) (fun c10 => ?_)
    · refine jj_iconst (v := 0) X d_ld_has_17 18 rfl (by decide) ?_
      exact jj_zret X hr hlk d_ld_has_18 (rfl) (⟨by simp [h1, b2, *], rfl⟩)
    · refine jj_iconst (v := 1) X d_ld_has_13 14 rfl (by decide) ?_
      refine jj_goto X d_ld_has_14 18 (by decide) ?_
      exact jj_zret X hr hlk d_ld_has_18 (rfl) (⟨by simp [h1, b2, *], rfl⟩)
set_option maxRecDepth 100000 in
set_option maxHeartbeats 4000000 in
theorem c_te_has (l : Launch) (D : va_G) (cI cZ : ClassId) (q : Nat → Nat) (A : Rows) (x : Int32) : mt_I l D cls_ [(cI, .int), (cZ, .boolean)] nst_ y_te_has (Cond.code y_te_has b_te_has 2 (some .boolean) :: gt_) (rmd 0) [.ref (q 7), .int x] (tw cI cZ q A) (fun r u => r = b2 (hN (A 0 6) x) ∧ u = tw cI cZ q A) := by
  refine mt_I_of (by decide) (Nat.le_of_ble_eq_true rfl) ?_
  intro p e s m below meth c AA X hr hlk
  refine jj_lve (lv' := [(0, .ref (q 7)), (1, .int x)]) rfl ?_
  refine jj_iload_n X d_te_has_0 1 rfl 1 rfl ?_
  refine jj_if_lt X d_te_has_1 16 4 (by decide) rfl (fun c1 => ?_) (fun c1 => ?_)
  · refine jj_iconst (v := 0) X d_te_has_16 17 rfl (by decide) ?_
    exact jj_zret X hr hlk d_te_has_17 (rfl) (⟨by simp [hN, b2, *], rfl⟩)
  · refine jj_iload_n X d_te_has_4 5 rfl 1 rfl ?_
    refine jj_aload_n X d_te_has_5 6 rfl 0 rfl ?_
    refine jj_get (v := .int (A 0 6)) X d_te_has_6 9 rfl i_te 2 f_te_18 7 rfl rfl (by decide) rfl rfl ?_
    refine jj_icmp_ge X d_te_has_9 16 12 (by decide) rfl (fun c9 => ?_) (fun c9 => ?_)
    · refine jj_iconst (v := 0) X d_te_has_16 17 rfl (by decide) ?_
      exact jj_zret X hr hlk d_te_has_17 (rfl) (⟨by simp [hN, b2, *], rfl⟩)
    · refine jj_iconst (v := 1) X d_te_has_12 13 rfl (by decide) ?_
      refine jj_goto X d_te_has_13 17 (by decide) ?_
      exact jj_zret X hr hlk d_te_has_17 (rfl) (⟨by simp [hN, b2, *], rfl⟩)
set_option maxRecDepth 100000 in
set_option maxHeartbeats 4000000 in
theorem c_tr_isDay (l : Launch) (D : va_G) (cI cZ : ClassId) (q : Nat → Nat) (A : Rows) (x : Int32) : mt_I l D cls_ [(cI, .int), (cZ, .boolean)] nst_ y_tr_isDay (Cond.code y_tr_isDay b_tr_isDay 1 (some .boolean) :: gt_) (rmd 0) [.int x] (tw cI cZ q A) (fun r u => r = b2 (dC x) ∧ u = tw cI cZ q A) := by
  refine mt_I_of (by decide) (Nat.le_of_ble_eq_true rfl) ?_
  intro p e s m below meth c AA X hr hlk
  refine jj_lve (lv' := [(0, .int x)]) rfl ?_
  refine jj_iload_n X d_tr_isDay_0 1 rfl 0 rfl ?_
  refine jj_if_lt X d_tr_isDay_1 14 4 (by decide) rfl (fun c1 => ?_) (fun c1 => ?_)
  · refine jj_iconst (v := 0) X d_tr_isDay_14 15 rfl (by decide) ?_
    exact jj_zret X hr hlk d_tr_isDay_15 (rfl) (⟨by simp [dC, b2, *], rfl⟩)
  · refine jj_iload_n X d_tr_isDay_4 5 rfl 0 rfl ?_
    refine jj_ldc (v := 99999) X d_tr_isDay_5 7 rfl o_tr_204 ?_
    refine jj_icmp_gt X d_tr_isDay_7 14 10 (by decide) rfl (fun c7 => ?_) (fun c7 => ?_)
    · refine jj_iconst (v := 0) X d_tr_isDay_14 15 rfl (by decide) ?_
      exact jj_zret X hr hlk d_tr_isDay_15 (rfl) (⟨by simp [dC, b2, *], rfl⟩)
    · refine jj_iconst (v := 1) X d_tr_isDay_10 11 rfl (by decide) ?_
      refine jj_goto X d_tr_isDay_11 15 (by decide) ?_
      exact jj_zret X hr hlk d_tr_isDay_15 (rfl) (⟨by simp [dC, b2, *], rfl⟩)
end
section
set_option maxRecDepth 100000 in
set_option maxHeartbeats 4000000 in
theorem c_pl_add (l : Launch) (D : va_G) (cI cZ : ClassId) (q : Nat → Nat) (A : Rows) (n : Nat) (hn : A 0 0 = nI n) (hle : n ≤ 12) : mt_I l D cls_ [(cI, .int), (cZ, .boolean)] nst_ y_pl_add (Cond.code y_pl_add b_pl_add 1 (some .int) :: gt_) (rmd 0) [.ref (q 1)] (tw cI cZ q A) (fun r u => r = (if n = 12 then -1 else nI n) ∧ u = tw cI cZ q (if n = 12 then A else (ua (ua A 0 (uz (A 0) 0 (nI (n + 1)))) 1 (upd (A 1) n 1)))) := by
  refine mt_I_of (by decide) (Nat.le_of_ble_eq_true rfl) ?_
  intro p e s m below meth c AA X hr hlk
  refine jj_lve (lv' := [(0, .ref (q 1))]) rfl ?_
  refine jj_aload_n X d_pl_add_0 1 rfl 0 rfl ?_
  refine jj_get (v := .int (nI n)) X d_pl_add_1 4 rfl i_pl 1 f_pl_15 1 rfl rfl (by decide) rfl (by rw [← hn]; rfl) ?_
  refine jj_bipush (v := 12) X d_pl_add_4 6 rfl (by decide) ?_
  refine jj_icmp_ne X d_pl_add_6 11 9 (by decide) rfl (fun c6 => ?_) (fun c6 => ?_)
  · have hne : n ≠ 12 := nI_neD c6
    refine jj_aload_n X d_pl_add_11 12 rfl 0 rfl ?_
    refine jj_get (v := .ref (q 8)) X d_pl_add_12 15 rfl i_pl 0 f_pl_9 1 rfl rfl (by decide) rfl rfl ?_
    refine jj_aload_n X d_pl_add_15 16 rfl 0 rfl ?_
    refine jj_get (v := .int (nI n)) X d_pl_add_16 19 rfl i_pl 1 f_pl_15 1 rfl rfl (by decide) rfl (by rw [← hn]; rfl) ?_
    refine jj_iconst (v := 1) X d_pl_add_19 20 rfl (by decide) ?_
    refine jj_zast (ws' := tw cI cZ q ((ua A 1 (upd (A 1) n 1)))) X d_pl_add_20 21 rfl 8 1 rfl rfl (vp_in_nI (by omega) (by omega)) (rfl) (by rw [nI_clamp (by omega)]; rfl) ?_
    refine jj_aload_n X d_pl_add_21 22 rfl 0 rfl ?_
    refine jj_dup X d_pl_add_22 23 rfl rfl ?_
    refine jj_get (v := .int (nI n)) X d_pl_add_23 26 rfl i_pl 1 f_pl_15 1 rfl rfl (by decide) rfl (by rw [← hn]; rfl) ?_
    refine jj_dup_x1 X d_pl_add_26 27 rfl rfl rfl ?_
    refine jj_iconst (v := 1) X d_pl_add_27 28 rfl (by decide) ?_
    refine jj_iadd X d_pl_add_28 29 rfl ?_
    refine jj_topv (y := nI (n + 1)) (nI_1 _) ?_
    refine jj_put (ty := .int) (ws' := tw cI cZ q ((ua (ua A 0 (uz (A 0) 0 (nI (n + 1)))) 1 (upd (A 1) n 1)))) X d_pl_add_29 32 rfl i_pl t_pl t_pl_ok n_pl 1 f_pl_15 1 rfl rfl (by decide) rfl rfl (by decide +kernel) rfl rfl (Nat.le_of_ble_eq_true rfl) rfl ?_
    exact jj_iret X hr hlk d_pl_add_32 (⟨by simp [hne], by simp [hne]⟩)
  · have hne : n = 12 := nI_eqD c6 (by omega) (by omega)
    refine jj_iconst (v := -1) X d_pl_add_9 10 rfl (by decide) ?_
    exact jj_iret X hr hlk d_pl_add_10 (⟨by simp [hne], by simp [hne]⟩)
set_option maxRecDepth 100000 in
set_option maxHeartbeats 4000000 in
theorem c_ro_add (l : Launch) (D : va_G) (cI cZ : ClassId) (q : Nat → Nat) (A : Rows) (n : Nat) (a1 a2 a3 a4 a5 : Int32) (hn : A 0 1 = nI n) (hle : n ≤ 40) : mt_I l D cls_ [(cI, .int), (cZ, .boolean)] nst_ y_ro_add (Cond.code y_ro_add b_ro_add 6 (some .int) :: gt_) (rmd 0) [.ref (q 2), .int a1, .int a2, .int a3, .int a4, .int a5] (tw cI cZ q A) (fun r u => r = (if n = 40 then -1 else nI n) ∧ u = tw cI cZ q (if n = 40 then A else (ua (ua (ua (ua (ua (ua (ua A 0 (uz (A 0) 1 (nI (n + 1)))) 2 (upd (A 2) n a1)) 3 (upd (A 3) n a2)) 4 (upd (A 4) n a3)) 5 (upd (A 5) n a4)) 6 (upd (A 6) n a5)) 7 (upd (A 7) n (-1))))) := by
  refine mt_I_of (by decide) (Nat.le_of_ble_eq_true rfl) ?_
  intro p e s m below meth c AA X hr hlk
  refine jj_lve (lv' := [(0, .ref (q 2)), (1, .int a1), (2, .int a2), (3, .int a3), (4, .int a4), (5, .int a5)]) rfl ?_
  refine jj_aload_n X d_ro_add_0 1 rfl 0 rfl ?_
  refine jj_get (v := .int (nI n)) X d_ro_add_1 4 rfl i_ro 7 f_ro_37 2 rfl rfl (by decide) rfl (by rw [← hn]; rfl) ?_
  refine jj_bipush (v := 40) X d_ro_add_4 6 rfl (by decide) ?_
  refine jj_icmp_ne X d_ro_add_6 11 9 (by decide) rfl (fun c6 => ?_) (fun c6 => ?_)
  · have hne : n ≠ 40 := nI_neD c6
    refine jj_aload_n X d_ro_add_11 12 rfl 0 rfl ?_
    refine jj_get (v := .ref (q 9)) X d_ro_add_12 15 rfl i_ro 0 f_ro_9 2 rfl rfl (by decide) rfl rfl ?_
    refine jj_aload_n X d_ro_add_15 16 rfl 0 rfl ?_
    refine jj_get (v := .int (nI n)) X d_ro_add_16 19 rfl i_ro 7 f_ro_37 2 rfl rfl (by decide) rfl (by rw [← hn]; rfl) ?_
    refine jj_iload_n X d_ro_add_19 20 rfl 1 rfl ?_
    refine jj_iast (ws' := tw cI cZ q ((ua A 2 (upd (A 2) n a1)))) X d_ro_add_20 21 rfl 9 0 rfl rfl (vp_in_nI (by omega) (by omega)) (by rw [nI_clamp (by omega)]; rfl) ?_
    refine jj_aload_n X d_ro_add_21 22 rfl 0 rfl ?_
    refine jj_get (v := .ref (q 10)) X d_ro_add_22 25 rfl i_ro 1 f_ro_15 2 rfl rfl (by decide) rfl rfl ?_
    refine jj_aload_n X d_ro_add_25 26 rfl 0 rfl ?_
    refine jj_get (v := .int (nI n)) X d_ro_add_26 29 rfl i_ro 7 f_ro_37 2 rfl rfl (by decide) rfl (by rw [← hn]; rfl) ?_
    refine jj_iload_n X d_ro_add_29 30 rfl 2 rfl ?_
    refine jj_iast (ws' := tw cI cZ q ((ua (ua A 2 (upd (A 2) n a1)) 3 (upd (A 3) n a2)))) X d_ro_add_30 31 rfl 10 0 rfl rfl (vp_in_nI (by omega) (by omega)) (by rw [nI_clamp (by omega)]; rfl) ?_
    refine jj_aload_n X d_ro_add_31 32 rfl 0 rfl ?_
    refine jj_get (v := .ref (q 11)) X d_ro_add_32 35 rfl i_ro 2 f_ro_18 2 rfl rfl (by decide) rfl rfl ?_
    refine jj_aload_n X d_ro_add_35 36 rfl 0 rfl ?_
    refine jj_get (v := .int (nI n)) X d_ro_add_36 39 rfl i_ro 7 f_ro_37 2 rfl rfl (by decide) rfl (by rw [← hn]; rfl) ?_
    refine jj_iload_n X d_ro_add_39 40 rfl 3 rfl ?_
    refine jj_iast (ws' := tw cI cZ q ((ua (ua (ua A 2 (upd (A 2) n a1)) 3 (upd (A 3) n a2)) 4 (upd (A 4) n a3)))) X d_ro_add_40 41 rfl 11 0 rfl rfl (vp_in_nI (by omega) (by omega)) (by rw [nI_clamp (by omega)]; rfl) ?_
    refine jj_aload_n X d_ro_add_41 42 rfl 0 rfl ?_
    refine jj_get (v := .ref (q 12)) X d_ro_add_42 45 rfl i_ro 3 f_ro_21 2 rfl rfl (by decide) rfl rfl ?_
    refine jj_aload_n X d_ro_add_45 46 rfl 0 rfl ?_
    refine jj_get (v := .int (nI n)) X d_ro_add_46 49 rfl i_ro 7 f_ro_37 2 rfl rfl (by decide) rfl (by rw [← hn]; rfl) ?_
    refine jj_iload X d_ro_add_49 51 rfl 4 rfl ?_
    refine jj_iast (ws' := tw cI cZ q ((ua (ua (ua (ua A 2 (upd (A 2) n a1)) 3 (upd (A 3) n a2)) 4 (upd (A 4) n a3)) 5 (upd (A 5) n a4)))) X d_ro_add_51 52 rfl 12 0 rfl rfl (vp_in_nI (by omega) (by omega)) (by rw [nI_clamp (by omega)]; rfl) ?_
    refine jj_aload_n X d_ro_add_52 53 rfl 0 rfl ?_
    refine jj_get (v := .ref (q 13)) X d_ro_add_53 56 rfl i_ro 4 f_ro_24 2 rfl rfl (by decide) rfl rfl ?_
    refine jj_aload_n X d_ro_add_56 57 rfl 0 rfl ?_
    refine jj_get (v := .int (nI n)) X d_ro_add_57 60 rfl i_ro 7 f_ro_37 2 rfl rfl (by decide) rfl (by rw [← hn]; rfl) ?_
    refine jj_iload X d_ro_add_60 62 rfl 5 rfl ?_
    refine jj_iast (ws' := tw cI cZ q ((ua (ua (ua (ua (ua A 2 (upd (A 2) n a1)) 3 (upd (A 3) n a2)) 4 (upd (A 4) n a3)) 5 (upd (A 5) n a4)) 6 (upd (A 6) n a5)))) X d_ro_add_62 63 rfl 13 0 rfl rfl (vp_in_nI (by omega) (by omega)) (by rw [nI_clamp (by omega)]; rfl) ?_
    refine jj_aload_n X d_ro_add_63 64 rfl 0 rfl ?_
    refine jj_get (v := .ref (q 14)) X d_ro_add_64 67 rfl i_ro 5 f_ro_27 2 rfl rfl (by decide) rfl rfl ?_
    refine jj_aload_n X d_ro_add_67 68 rfl 0 rfl ?_
    refine jj_get (v := .int (nI n)) X d_ro_add_68 71 rfl i_ro 7 f_ro_37 2 rfl rfl (by decide) rfl (by rw [← hn]; rfl) ?_
    refine jj_iconst (v := -1) X d_ro_add_71 72 rfl (by decide) ?_
    refine jj_iast (ws' := tw cI cZ q ((ua (ua (ua (ua (ua (ua A 2 (upd (A 2) n a1)) 3 (upd (A 3) n a2)) 4 (upd (A 4) n a3)) 5 (upd (A 5) n a4)) 6 (upd (A 6) n a5)) 7 (upd (A 7) n (-1))))) X d_ro_add_72 73 rfl 14 0 rfl rfl (vp_in_nI (by omega) (by omega)) (by rw [nI_clamp (by omega)]; rfl) ?_
    refine jj_aload_n X d_ro_add_73 74 rfl 0 rfl ?_
    refine jj_dup X d_ro_add_74 75 rfl rfl ?_
    refine jj_get (v := .int (nI n)) X d_ro_add_75 78 rfl i_ro 7 f_ro_37 2 rfl rfl (by decide) rfl (by rw [← hn]; rfl) ?_
    refine jj_dup_x1 X d_ro_add_78 79 rfl rfl rfl ?_
    refine jj_iconst (v := 1) X d_ro_add_79 80 rfl (by decide) ?_
    refine jj_iadd X d_ro_add_80 81 rfl ?_
    refine jj_topv (y := nI (n + 1)) (nI_1 _) ?_
    refine jj_put (ty := .int) (ws' := tw cI cZ q ((ua (ua (ua (ua (ua (ua (ua A 0 (uz (A 0) 1 (nI (n + 1)))) 2 (upd (A 2) n a1)) 3 (upd (A 3) n a2)) 4 (upd (A 4) n a3)) 5 (upd (A 5) n a4)) 6 (upd (A 6) n a5)) 7 (upd (A 7) n (-1))))) X d_ro_add_81 84 rfl i_ro t_ro t_ro_ok n_ro 7 f_ro_37 2 rfl rfl (by decide) rfl rfl (by decide +kernel) rfl rfl (Nat.le_of_ble_eq_true rfl) rfl ?_
    exact jj_iret X hr hlk d_ro_add_84 (⟨by simp [hne], by simp [hne]⟩)
  · have hne : n = 40 := nI_eqD c6 (by omega) (by omega)
    refine jj_iconst (v := -1) X d_ro_add_9 10 rfl (by decide) ?_
    exact jj_iret X hr hlk d_ro_add_10 (⟨by simp [hne], by simp [hne]⟩)
set_option maxRecDepth 100000 in
set_option maxHeartbeats 4000000 in
theorem c_cp_add (l : Launch) (D : va_G) (cI cZ : ClassId) (q : Nat → Nat) (A : Rows) (n : Nat) (a : Int32) (hn : A 0 3 = nI n) (hle : n ≤ 60) : mt_I l D cls_ [(cI, .int), (cZ, .boolean)] nst_ y_cp_add (Cond.code y_cp_add b_cp_add 2 (some .int) :: gt_) (rmd 0) [.ref (q 4), .int a] (tw cI cZ q A) (fun r u => r = (if n = 60 then 0 else nI (n + 1)) ∧ u = tw cI cZ q (if n = 60 then A else (ua (ua (ua A 0 (uz (A 0) 3 (nI (n + 1)))) 10 (upd (A 10) (n + 1) a)) 11 (upd (A 11) (n + 1) a)))) := by
  refine mt_I_of (by decide) (Nat.le_of_ble_eq_true rfl) ?_
  intro p e s m below meth c AA X hr hlk
  refine jj_lve (lv' := [(0, .ref (q 4)), (1, .int a)]) rfl ?_
  refine jj_aload_n X d_cp_add_0 1 rfl 0 rfl ?_
  refine jj_get (v := .int (nI n)) X d_cp_add_1 4 rfl i_cp 5 f_cp_28 4 rfl rfl (by decide) rfl (by rw [← hn]; rfl) ?_
  refine jj_bipush (v := 60) X d_cp_add_4 6 rfl (by decide) ?_
  refine jj_icmp_ne X d_cp_add_6 11 9 (by decide) rfl (fun c6 => ?_) (fun c6 => ?_)
  · have hne : n ≠ 60 := nI_neD c6
    refine jj_aload_n X d_cp_add_11 12 rfl 0 rfl ?_
    refine jj_dup X d_cp_add_12 13 rfl rfl ?_
    refine jj_get (v := .int (nI n)) X d_cp_add_13 16 rfl i_cp 5 f_cp_28 4 rfl rfl (by decide) rfl (by rw [← hn]; rfl) ?_
    refine jj_iconst (v := 1) X d_cp_add_16 17 rfl (by decide) ?_
    refine jj_iadd X d_cp_add_17 18 rfl ?_
    refine jj_topv (y := nI (n + 1)) (nI_1 _) ?_
    refine jj_put (ty := .int) (ws' := tw cI cZ q ((ua A 0 (uz (A 0) 3 (nI (n + 1)))))) X d_cp_add_18 21 rfl i_cp t_cp t_cp_ok n_cp 5 f_cp_28 4 rfl rfl (by decide) rfl rfl (by decide +kernel) rfl rfl (Nat.le_of_ble_eq_true rfl) rfl ?_
    refine jj_aload_n X d_cp_add_21 22 rfl 0 rfl ?_
    refine jj_get (v := .ref (q 17)) X d_cp_add_22 25 rfl i_cp 0 f_cp_9 4 rfl rfl (by decide) rfl rfl ?_
    refine jj_aload_n X d_cp_add_25 26 rfl 0 rfl ?_
    refine jj_get (v := .int (nI (n + 1))) X d_cp_add_26 29 rfl i_cp 5 f_cp_28 4 rfl rfl (by decide) rfl rfl ?_
    refine jj_iload_n X d_cp_add_29 30 rfl 1 rfl ?_
    refine jj_iast (ws' := tw cI cZ q ((ua (ua A 0 (uz (A 0) 3 (nI (n + 1)))) 10 (upd (A 10) ((n + 1)) a)))) X d_cp_add_30 31 rfl 17 0 rfl rfl (vp_in_nI (by omega) (by omega)) (by rw [nI_clamp (by omega)]; rfl) ?_
    refine jj_aload_n X d_cp_add_31 32 rfl 0 rfl ?_
    refine jj_get (v := .ref (q 18)) X d_cp_add_32 35 rfl i_cp 1 f_cp_15 4 rfl rfl (by decide) rfl rfl ?_
    refine jj_aload_n X d_cp_add_35 36 rfl 0 rfl ?_
    refine jj_get (v := .int (nI (n + 1))) X d_cp_add_36 39 rfl i_cp 5 f_cp_28 4 rfl rfl (by decide) rfl rfl ?_
    refine jj_iload_n X d_cp_add_39 40 rfl 1 rfl ?_
    refine jj_iast (ws' := tw cI cZ q ((ua (ua (ua A 0 (uz (A 0) 3 (nI (n + 1)))) 10 (upd (A 10) ((n + 1)) a)) 11 (upd (A 11) ((n + 1)) a)))) X d_cp_add_40 41 rfl 18 0 rfl rfl (vp_in_nI (by omega) (by omega)) (by rw [nI_clamp (by omega)]; rfl) ?_
    refine jj_aload_n X d_cp_add_41 42 rfl 0 rfl ?_
    refine jj_get (v := .int (nI (n + 1))) X d_cp_add_42 45 rfl i_cp 5 f_cp_28 4 rfl rfl (by decide) rfl rfl ?_
    exact jj_iret X hr hlk d_cp_add_45 (⟨by simp [hne], by simp [hne]⟩)
  · have hne : n = 60 := nI_eqD c6 (by omega) (by omega)
    refine jj_iconst (v := 0) X d_cp_add_9 10 rfl (by decide) ?_
    exact jj_iret X hr hlk d_cp_add_10 (⟨by simp [hne], by simp [hne]⟩)
set_option maxRecDepth 100000 in
set_option maxHeartbeats 4000000 in
theorem c_lo_find (l : Launch) (D : va_G) (cI cZ : ClassId) (q : Nat → Nat) (A : Rows) (n : Nat) (a b : Int32) (hn : A 0 2 = nI n) (hle : n ≤ 60) : mt_I l D cls_ [(cI, .int), (cZ, .boolean)] nst_ y_lo_find (Cond.code y_lo_find b_lo_find 4 (some .int) :: gt_) (rmd 0) [.ref (q 3), .int a, .int b] (tw cI cZ q A) (fun r u => r = x_find (A 8) (A 9) a b n 0 ∧ u = tw cI cZ q A) := by
  refine mt_I_of (by decide) (Nat.le_of_ble_eq_true rfl) ?_
  intro p e s m below meth c AA X hr hlk
  refine jj_lve (lv' := [(0, .ref (q 3)), (1, .int a), (2, .int b)]) rfl ?_
  refine jj_iconst (v := 0) X d_lo_find_0 1 rfl (by decide) ?_
  refine jj_istore_n (lv' := [(0, .ref (q 3)), (1, .int a), (2, .int b), (3, .int 0)]) X d_lo_find_1 2 rfl (by decide) rfl rfl ?_
  refine jj_loop (fun (k : Nat) => k ≤ n ∧ x_find (A 8) (A 9) a b (n - k) k = x_find (A 8) (A 9) a b n 0) (fun (k : Nat) => n - k) (fun (k : Nat) => [(0, .ref (q 3)), (1, .int a), (2, .int b), (3, .int (nI k))]) (fun (k : Nat) => []) (fun (k : Nat) => tw cI cZ q A) (0) (⟨Nat.zero_le _, by rw [Nat.sub_zero]⟩) rfl rfl rfl ?_
  rintro k hI ih2
  try dsimp only at hI ih2 ⊢
  obtain ⟨hk, hf⟩ := hI
  refine jj_iload_n X d_lo_find_2 3 rfl 3 rfl ?_
  refine jj_aload_n X d_lo_find_3 4 rfl 0 rfl ?_
  refine jj_get (v := .int (nI n)) X d_lo_find_4 7 rfl i_lo 2 f_lo_18 3 rfl rfl (by decide) rfl (by rw [← hn]; rfl) ?_
  refine jj_icmp_ge X d_lo_find_7 38 10 (by decide) rfl (fun c7 => ?_) (fun c7 => ?_)
  · have hkn : k = n := Nat.le_antisymm hk (nI_leD c7 (by omega) (by omega))
    subst hkn
    refine jj_iconst (v := -1) X d_lo_find_38 39 rfl (by decide) ?_
    exact jj_iret X hr hlk d_lo_find_39 (⟨by rw [← hf, x_find_e], rfl⟩)
  · have hkn : k < n := nI_nleD c7 (by omega) (by omega)
    refine jj_aload_n X d_lo_find_10 11 rfl 0 rfl ?_
    refine jj_get (v := .ref (q 15)) X d_lo_find_11 14 rfl i_lo 0 f_lo_9 3 rfl rfl (by decide) rfl rfl ?_
    refine jj_iload_n X d_lo_find_14 15 rfl 3 rfl ?_
    refine jj_iald (v := A 8 k) X d_lo_find_15 16 rfl 15 0 rfl rfl (vp_in_nI (by omega) (by omega)) (ar_cl (by omega)) ?_
    refine jj_iload_n X d_lo_find_16 17 rfl 1 rfl ?_
    refine jj_icmp_ne X d_lo_find_17 32 20 (by decide) rfl (fun c17 => ?_) (fun c17 => ?_)
    · refine jj_iinc (v := nI (k + 1)) (lv' := [(0, .ref (q 3)), (1, .int a), (2, .int b), (3, .int (nI (k + 1)))]) X d_lo_find_32 35 rfl 3 rfl (ar_inc _) (by decide) rfl rfl ?_
      refine jj_goto X d_lo_find_35 2 (by decide) ?_
      exact ih2 (k + 1) (⟨by omega, by rw [← hf, x_find_s hkn, if_neg (by simp [*])]⟩) (by omega)
    · refine jj_aload_n X d_lo_find_20 21 rfl 0 rfl ?_
      refine jj_get (v := .ref (q 16)) X d_lo_find_21 24 rfl i_lo 1 f_lo_15 3 rfl rfl (by decide) rfl rfl ?_
      refine jj_iload_n X d_lo_find_24 25 rfl 3 rfl ?_
      refine jj_iald (v := A 9 k) X d_lo_find_25 26 rfl 16 0 rfl rfl (vp_in_nI (by omega) (by omega)) (ar_cl (by omega)) ?_
      refine jj_iload_n X d_lo_find_26 27 rfl 2 rfl ?_
      refine jj_icmp_ne X d_lo_find_27 32 30 (by decide) rfl (fun c27 => ?_) (fun c27 => ?_)
      · refine jj_iinc (v := nI (k + 1)) (lv' := [(0, .ref (q 3)), (1, .int a), (2, .int b), (3, .int (nI (k + 1)))]) X d_lo_find_32 35 rfl 3 rfl (ar_inc _) (by decide) rfl rfl ?_
        refine jj_goto X d_lo_find_35 2 (by decide) ?_
        exact ih2 (k + 1) (⟨by omega, by rw [← hf, x_find_s hkn, if_neg (by simp [*])]⟩) (by omega)
      · refine jj_iload_n X d_lo_find_30 31 rfl 3 rfl ?_
        exact jj_iret X hr hlk d_lo_find_31 (⟨by rw [← hf, x_find_s hkn, if_pos (by simp [*])], rfl⟩)
set_option maxRecDepth 100000 in
set_option maxHeartbeats 4000000 in
theorem c_lo_add (l : Launch) (D : va_G) (cI cZ : ClassId) (q : Nat → Nat) (A : Rows) (n : Nat) (a b : Int32) (hn : A 0 2 = nI n) (hle : n ≤ 60) : mt_I l D cls_ [(cI, .int), (cZ, .boolean)] nst_ y_lo_add (Cond.code y_lo_add b_lo_add 3 (some .boolean) :: gt_) (rmd 1) [.ref (q 3), .int a, .int b] (tw cI cZ q A) (fun r u => r = b2 (!(decide (n = 60) || !decide (x_find (A 8) (A 9) a b n 0 = -1))) ∧ u = tw cI cZ q (if (decide (n = 60) || !decide (x_find (A 8) (A 9) a b n 0 = -1)) = true then A else (ua (ua (ua A 0 (uz (A 0) 2 (nI (n + 1)))) 8 (upd (A 8) n a)) 9 (upd (A 9) n b)))) := by
  refine mt_I_of (by decide) (Nat.le_of_ble_eq_true rfl) ?_
  intro p e s m below meth c AA X hr hlk
  refine jj_lve (lv' := [(0, .ref (q 3)), (1, .int a), (2, .int b)]) rfl ?_
  refine jj_aload_n X d_lo_add_0 1 rfl 0 rfl ?_
  refine jj_get (v := .int (nI n)) X d_lo_add_1 4 rfl i_lo 2 f_lo_18 3 rfl rfl (by decide) rfl (by rw [← hn]; rfl) ?_
  refine jj_bipush (v := 60) X d_lo_add_4 6 rfl (by decide) ?_
  refine jj_icmp_eq X d_lo_add_6 19 9 (by decide) rfl (fun c6 => ?_) (fun c6 => ?_)
  · have hne : n = 60 := nI_eqD c6 (by omega) (by omega)
    refine jj_iconst (v := 0) X d_lo_add_19 20 rfl (by decide) ?_
    exact jj_zret X hr hlk d_lo_add_20 (rfl) (⟨by simp [b2, *], by simp [*]⟩)
  · have hne : n ≠ 60 := nI_neD c6
    refine jj_aload_n X d_lo_add_9 10 rfl 0 rfl ?_
    refine jj_iload_n X d_lo_add_10 11 rfl 1 rfl ?_
    refine jj_iload_n X d_lo_add_11 12 rfl 2 rfl ?_
    refine jj_callV0 (st := []) X d_lo_add_12 15 rfl (c_lo_find l D cI cZ q A n a b hn hle) g_lo_22 ⟨rfl, w_lo_find⟩ ⟨(Nat.le_of_ble_eq_true rfl), (Nat.le_of_ble_eq_true rfl)⟩ rfl 3 rfl rfl rfl (Nat.le_of_ble_eq_true rfl) ⟨rfl, rfl⟩ ⟨Nat.zero_le _, Nat.zero_le _⟩ (fun r u hu => ?_)
    obtain ⟨rfl, rfl⟩ := hu
    refine jj_iconst (v := -1) X d_lo_add_15 16 rfl (by decide) ?_
    refine jj_icmp_eq X d_lo_add_16 21 19 (by decide) rfl (fun c16 => ?_) (fun c16 => ?_)
    · refine jj_aload_n X d_lo_add_21 22 rfl 0 rfl ?_
      refine jj_get (v := .ref (q 15)) X d_lo_add_22 25 rfl i_lo 0 f_lo_9 3 rfl rfl (by decide) rfl rfl ?_
      refine jj_aload_n X d_lo_add_25 26 rfl 0 rfl ?_
      refine jj_get (v := .int (nI n)) X d_lo_add_26 29 rfl i_lo 2 f_lo_18 3 rfl rfl (by decide) rfl (by rw [← hn]; rfl) ?_
      refine jj_iload_n X d_lo_add_29 30 rfl 1 rfl ?_
      refine jj_iast (ws' := tw cI cZ q ((ua A 8 (upd (A 8) n a)))) X d_lo_add_30 31 rfl 15 0 rfl rfl (vp_in_nI (by omega) (by omega)) (by rw [nI_clamp (by omega)]; rfl) ?_
      refine jj_aload_n X d_lo_add_31 32 rfl 0 rfl ?_
      refine jj_get (v := .ref (q 16)) X d_lo_add_32 35 rfl i_lo 1 f_lo_15 3 rfl rfl (by decide) rfl rfl ?_
      refine jj_aload_n X d_lo_add_35 36 rfl 0 rfl ?_
      refine jj_get (v := .int (nI n)) X d_lo_add_36 39 rfl i_lo 2 f_lo_18 3 rfl rfl (by decide) rfl (by rw [← hn]; rfl) ?_
      refine jj_iload_n X d_lo_add_39 40 rfl 2 rfl ?_
      refine jj_iast (ws' := tw cI cZ q ((ua (ua A 8 (upd (A 8) n a)) 9 (upd (A 9) n b)))) X d_lo_add_40 41 rfl 16 0 rfl rfl (vp_in_nI (by omega) (by omega)) (by rw [nI_clamp (by omega)]; rfl) ?_
      refine jj_aload_n X d_lo_add_41 42 rfl 0 rfl ?_
      refine jj_dup X d_lo_add_42 43 rfl rfl ?_
      refine jj_get (v := .int (nI n)) X d_lo_add_43 46 rfl i_lo 2 f_lo_18 3 rfl rfl (by decide) rfl (by rw [← hn]; rfl) ?_
      refine jj_iconst (v := 1) X d_lo_add_46 47 rfl (by decide) ?_
      refine jj_iadd X d_lo_add_47 48 rfl ?_
      refine jj_topv (y := nI (n + 1)) (nI_1 _) ?_
      refine jj_put (ty := .int) (ws' := tw cI cZ q ((ua (ua (ua A 0 (uz (A 0) 2 (nI (n + 1)))) 8 (upd (A 8) n a)) 9 (upd (A 9) n b)))) X d_lo_add_48 51 rfl i_lo t_lo t_lo_ok n_lo 2 f_lo_18 3 rfl rfl (by decide) rfl rfl (by decide +kernel) rfl rfl (Nat.le_of_ble_eq_true rfl) rfl ?_
      refine jj_iconst (v := 1) X d_lo_add_51 52 rfl (by decide) ?_
      exact jj_zret X hr hlk d_lo_add_52 (rfl) (⟨by simp [b2, *], by simp [*]⟩)
    · refine jj_iconst (v := 0) X d_lo_add_19 20 rfl (by decide) ?_
      exact jj_zret X hr hlk d_lo_add_20 (rfl) (⟨by simp [b2, *], by simp [*]⟩)
set_option maxRecDepth 100000 in
set_option maxHeartbeats 4000000 in
theorem c_lo_remove (l : Launch) (D : va_G) (cI cZ : ClassId) (q : Nat → Nat) (A : Rows) (n : Nat) (a b : Int32) (hn : A 0 2 = nI n) (hle : n ≤ 60) : mt_I l D cls_ [(cI, .int), (cZ, .boolean)] nst_ y_lo_remove (Cond.code y_lo_remove b_lo_remove 4 (some .boolean) :: gt_) (rmd 1) [.ref (q 3), .int a, .int b] (tw cI cZ q A) (fun r u => r = b2 (!decide (x_find (A 8) (A 9) a b n 0 = -1)) ∧ u = tw cI cZ q (if x_find (A 8) (A 9) a b n 0 = -1 then A else (ua (ua (ua A 0 (uz (A 0) 2 (nI (n - 1)))) 8 (upd (A 8) (x_find (A 8) (A 9) a b n 0).toNatClampNeg (A 8 (n - 1)))) 9 (upd (A 9) (x_find (A 8) (A 9) a b n 0).toNatClampNeg (A 9 (n - 1)))))) := by
  refine mt_I_of (by decide) (Nat.le_of_ble_eq_true rfl) ?_
  intro p e s m below meth c AA X hr hlk
  refine jj_lve (lv' := [(0, .ref (q 3)), (1, .int a), (2, .int b)]) rfl ?_
  refine jj_aload_n X d_lo_remove_0 1 rfl 0 rfl ?_
  refine jj_iload_n X d_lo_remove_1 2 rfl 1 rfl ?_
  refine jj_iload_n X d_lo_remove_2 3 rfl 2 rfl ?_
  refine jj_callV0 (st := []) X d_lo_remove_3 6 rfl (c_lo_find l D cI cZ q A n a b hn hle) g_lo_22 ⟨rfl, w_lo_find⟩ ⟨(Nat.le_of_ble_eq_true rfl), (Nat.le_of_ble_eq_true rfl)⟩ rfl 3 rfl rfl rfl (Nat.le_of_ble_eq_true rfl) ⟨rfl, rfl⟩ ⟨Nat.zero_le _, Nat.zero_le _⟩ (fun r u hu => ?_)
  obtain ⟨rfl, rfl⟩ := hu
  refine jj_istore_n (lv' := [(0, .ref (q 3)), (1, .int a), (2, .int b), (3, .int (x_find (A 8) (A 9) a b n 0))]) X d_lo_remove_6 7 rfl (by decide) rfl rfl ?_
  refine jj_iload_n X d_lo_remove_7 8 rfl 3 rfl ?_
  refine jj_iconst (v := -1) X d_lo_remove_8 9 rfl (by decide) ?_
  refine jj_icmp_ne X d_lo_remove_9 14 12 (by decide) rfl (fun c9 => ?_) (fun c9 => ?_)
  · obtain ⟨j, -, hj, ej, -, -⟩ := (x_find_r (f := A 8) (g := A 9) (a := a) (b := b) n 0).resolve_left c9
    have hin : vp_in (x_find (A 8) (A 9) a b n 0) 60 := by rw [ej]; exact vp_in_nI (by omega) (by omega)
    refine jj_aload_n X d_lo_remove_14 15 rfl 0 rfl ?_
    refine jj_dup X d_lo_remove_15 16 rfl rfl ?_
    refine jj_get (v := .int (nI n)) X d_lo_remove_16 19 rfl i_lo 2 f_lo_18 3 rfl rfl (by decide) rfl (by rw [← hn]; rfl) ?_
    refine jj_iconst (v := 1) X d_lo_remove_19 20 rfl (by decide) ?_
    refine jj_isub X d_lo_remove_20 21 rfl ?_
    refine jj_topv (y := nI (n - 1)) (pk_sub (b := 1) (by omega)) ?_
    refine jj_put (ty := .int) (ws' := tw cI cZ q ((ua A 0 (uz (A 0) 2 (nI (n - 1)))))) X d_lo_remove_21 24 rfl i_lo t_lo t_lo_ok n_lo 2 f_lo_18 3 rfl rfl (by decide) rfl rfl (by decide +kernel) rfl rfl (Nat.le_of_ble_eq_true rfl) rfl ?_
    refine jj_aload_n X d_lo_remove_24 25 rfl 0 rfl ?_
    refine jj_get (v := .ref (q 15)) X d_lo_remove_25 28 rfl i_lo 0 f_lo_9 3 rfl rfl (by decide) rfl rfl ?_
    refine jj_iload_n X d_lo_remove_28 29 rfl 3 rfl ?_
    refine jj_aload_n X d_lo_remove_29 30 rfl 0 rfl ?_
    refine jj_get (v := .ref (q 15)) X d_lo_remove_30 33 rfl i_lo 0 f_lo_9 3 rfl rfl (by decide) rfl rfl ?_
    refine jj_aload_n X d_lo_remove_33 34 rfl 0 rfl ?_
    refine jj_get (v := .int (nI (n - 1))) X d_lo_remove_34 37 rfl i_lo 2 f_lo_18 3 rfl rfl (by decide) rfl rfl ?_
    refine jj_iald (v := A 8 (n - 1)) X d_lo_remove_37 38 rfl 15 0 rfl rfl (vp_in_nI (by omega) (by omega)) (ar_cl (by omega)) ?_
    refine jj_iast (ws' := tw cI cZ q ((ua (ua A 0 (uz (A 0) 2 (nI (n - 1)))) 8 (upd (A 8) ((x_find (A 8) (A 9) a b n 0).toNatClampNeg) (A 8 (n - 1)))))) X d_lo_remove_38 39 rfl 15 0 rfl rfl (hin) rfl ?_
    refine jj_aload_n X d_lo_remove_39 40 rfl 0 rfl ?_
    refine jj_get (v := .ref (q 16)) X d_lo_remove_40 43 rfl i_lo 1 f_lo_15 3 rfl rfl (by decide) rfl rfl ?_
    refine jj_iload_n X d_lo_remove_43 44 rfl 3 rfl ?_
    refine jj_aload_n X d_lo_remove_44 45 rfl 0 rfl ?_
    refine jj_get (v := .ref (q 16)) X d_lo_remove_45 48 rfl i_lo 1 f_lo_15 3 rfl rfl (by decide) rfl rfl ?_
    refine jj_aload_n X d_lo_remove_48 49 rfl 0 rfl ?_
    refine jj_get (v := .int (nI (n - 1))) X d_lo_remove_49 52 rfl i_lo 2 f_lo_18 3 rfl rfl (by decide) rfl rfl ?_
    refine jj_iald (v := A 9 (n - 1)) X d_lo_remove_52 53 rfl 16 0 rfl rfl (vp_in_nI (by omega) (by omega)) (ar_cl (by omega)) ?_
    refine jj_iast (ws' := tw cI cZ q ((ua (ua (ua A 0 (uz (A 0) 2 (nI (n - 1)))) 8 (upd (A 8) ((x_find (A 8) (A 9) a b n 0).toNatClampNeg) (A 8 (n - 1)))) 9 (upd (A 9) ((x_find (A 8) (A 9) a b n 0).toNatClampNeg) (A 9 (n - 1)))))) X d_lo_remove_53 54 rfl 16 0 rfl rfl (hin) rfl ?_
    refine jj_iconst (v := 1) X d_lo_remove_54 55 rfl (by decide) ?_
    exact jj_zret X hr hlk d_lo_remove_55 (rfl) (⟨by simp [b2, c9], by simp [c9]⟩)
  · refine jj_iconst (v := 0) X d_lo_remove_12 13 rfl (by decide) ?_
    exact jj_zret X hr hlk d_lo_remove_13 (rfl) (⟨by simp [b2, *], by simp [*]⟩)
set_option maxRecDepth 100000 in
set_option maxHeartbeats 4000000 in
theorem c_ro_joins (l : Launch) (D : va_G) (cI cZ : ClassId) (q : Nat → Nat) (A : Rows) (x a b : Int32) (hx : vp_in x 40) : mt_I l D cls_ [(cI, .int), (cZ, .boolean)] nst_ y_ro_joins (Cond.code y_ro_joins b_ro_joins 4 (some .boolean) :: gt_) (rmd 0) [.ref (q 2), .int x, .int a, .int b] (tw cI cZ q A) (fun r u => r = b2 (joC A x a b) ∧ u = tw cI cZ q A) := by
  refine mt_I_of (by decide) (Nat.le_of_ble_eq_true rfl) ?_
  intro p e s m below meth c AA X hr hlk
  refine jj_lve (lv' := [(0, .ref (q 2)), (1, .int x), (2, .int a), (3, .int b)]) rfl ?_
  refine jj_aload_n X d_ro_joins_0 1 rfl 0 rfl ?_
  refine jj_get (v := .ref (q 9)) X d_ro_joins_1 4 rfl i_ro 0 f_ro_9 2 rfl rfl (by decide) rfl rfl ?_
  refine jj_iload_n X d_ro_joins_4 5 rfl 1 rfl ?_
  refine jj_iald (v := A 2 x.toNatClampNeg) X d_ro_joins_5 6 rfl 9 0 rfl rfl (by assumption) (rfl) ?_
  refine jj_iload_n X d_ro_joins_6 7 rfl 2 rfl ?_
  refine jj_icmp_ne X d_ro_joins_7 24 10 (by decide) rfl (fun c7 => ?_) (fun c7 => ?_)
  · refine jj_iconst (v := 0) X d_ro_joins_24 25 rfl (by decide) ?_
    exact jj_zret X hr hlk d_ro_joins_25 (rfl) (⟨by simp [joC, b2, *], rfl⟩)
  · refine jj_aload_n X d_ro_joins_10 11 rfl 0 rfl ?_
    refine jj_get (v := .ref (q 10)) X d_ro_joins_11 14 rfl i_ro 1 f_ro_15 2 rfl rfl (by decide) rfl rfl ?_
    refine jj_iload_n X d_ro_joins_14 15 rfl 1 rfl ?_
    refine jj_iald (v := A 3 x.toNatClampNeg) X d_ro_joins_15 16 rfl 10 0 rfl rfl (by assumption) (rfl) ?_
    refine jj_iload_n X d_ro_joins_16 17 rfl 3 rfl ?_
    refine jj_icmp_ne X d_ro_joins_17 24 20 (by decide) rfl (fun c17 => ?_) (fun c17 => ?_)
    · refine jj_iconst (v := 0) X d_ro_joins_24 25 rfl (by decide) ?_
      exact jj_zret X hr hlk d_ro_joins_25 (rfl) (⟨by simp [joC, b2, *], rfl⟩)
    · refine jj_iconst (v := 1) X d_ro_joins_20 21 rfl (by decide) ?_
      refine jj_goto X d_ro_joins_21 25 (by decide) ?_
      exact jj_zret X hr hlk d_ro_joins_25 (rfl) (⟨by simp [joC, b2, *], rfl⟩)
set_option maxRecDepth 100000 in
set_option maxHeartbeats 4000000 in
theorem c_ro_runsOn (l : Launch) (D : va_G) (cI cZ : ClassId) (q : Nat → Nat) (A : Rows) (n : Nat) (x d : Int32) (hn : A 0 2 = nI n) (hle : n ≤ 60) (hx : vp_in x 40) : mt_I l D cls_ [(cI, .int), (cZ, .boolean)] nst_ y_ro_runsOn (Cond.code y_ro_runsOn b_ro_runsOn 4 (some .boolean) :: gt_) (rmd 1) [.ref (q 2), .int x, .int d] (tw cI cZ q A) (fun r u => r = b2 (ruC A n x d) ∧ u = tw cI cZ q A) := by
  refine mt_I_of (by decide) (Nat.le_of_ble_eq_true rfl) ?_
  intro p e s m below meth c AA X hr hlk
  refine jj_lve (lv' := [(0, .ref (q 2)), (1, .int x), (2, .int d)]) rfl ?_
  refine jj_aload_n X d_ro_runsOn_0 1 rfl 0 rfl ?_
  refine jj_get (v := .ref (q 11)) X d_ro_runsOn_1 4 rfl i_ro 2 f_ro_18 2 rfl rfl (by decide) rfl rfl ?_
  refine jj_iload_n X d_ro_runsOn_4 5 rfl 1 rfl ?_
  refine jj_iald (v := A 4 x.toNatClampNeg) X d_ro_runsOn_5 6 rfl 11 0 rfl rfl (by assumption) (rfl) ?_
  refine jj_iload_n X d_ro_runsOn_6 7 rfl 2 rfl ?_
  refine jj_bipush (v := 7) X d_ro_runsOn_7 9 rfl (by decide) ?_
  refine jj_irem X d_ro_runsOn_9 10 rfl (by decide) ?_
  refine jj_ishr X d_ro_runsOn_10 11 rfl ?_
  refine jj_iconst (v := 1) X d_ro_runsOn_11 12 rfl (by decide) ?_
  refine jj_iand X d_ro_runsOn_12 13 rfl ?_
  refine jj_iconst (v := 1) X d_ro_runsOn_13 14 rfl (by decide) ?_
  refine jj_icmp_ne X d_ro_runsOn_14 21 17 (by decide) rfl (fun c14 => ?_) (fun c14 => ?_)
  · refine jj_iconst (v := 0) X d_ro_runsOn_21 22 rfl (by decide) ?_
    refine jj_istore_n (lv' := [(0, .ref (q 2)), (1, .int x), (2, .int d), (3, .int 0)]) X d_ro_runsOn_22 23 rfl (by decide) rfl rfl ?_
    refine jj_iload_n X d_ro_runsOn_23 24 rfl 3 rfl ?_
    refine jj_if_eq X d_ro_runsOn_24 44 27 (by decide) rfl (fun c24 => ?_) (fun c24 => ?_)
    · refine jj_iconst (v := 0) X d_ro_runsOn_44 45 rfl (by decide) ?_
      exact jj_zret X hr hlk d_ro_runsOn_45 (rfl) (⟨by simp [ruC, b2, *], rfl⟩)
    · exact absurd c24 (by decide)
  · refine jj_iconst (v := 1) X d_ro_runsOn_17 18 rfl (by decide) ?_
    refine jj_goto X d_ro_runsOn_18 22 (by decide) ?_
    refine jj_istore_n (lv' := [(0, .ref (q 2)), (1, .int x), (2, .int d), (3, .int 1)]) X d_ro_runsOn_22 23 rfl (by decide) rfl rfl ?_
    refine jj_iload_n X d_ro_runsOn_23 24 rfl 3 rfl ?_
    refine jj_if_eq X d_ro_runsOn_24 44 27 (by decide) rfl (fun c24 => ?_) (fun c24 => ?_)
    · exact absurd c24 (by decide)
    · refine jj_aload_n X d_ro_runsOn_27 28 rfl 0 rfl ?_
      refine jj_get (v := .ref (q 3)) X d_ro_runsOn_28 31 rfl i_ro 6 f_ro_33 2 rfl rfl (by decide) rfl rfl ?_
      refine jj_iload_n X d_ro_runsOn_31 32 rfl 1 rfl ?_
      refine jj_iload_n X d_ro_runsOn_32 33 rfl 2 rfl ?_
      refine jj_callV0 (st := []) X d_ro_runsOn_33 36 rfl (c_lo_find l D cI cZ q A n x d hn hle) g_ro_41 ⟨rfl, w_lo_find⟩ ⟨(Nat.le_of_ble_eq_true rfl), (Nat.le_of_ble_eq_true rfl)⟩ rfl 3 rfl rfl rfl (Nat.le_of_ble_eq_true rfl) ⟨rfl, rfl⟩ ⟨Nat.zero_le _, Nat.zero_le _⟩ (fun r u hu => ?_)
      obtain ⟨rfl, rfl⟩ := hu
      refine jj_iconst (v := -1) X d_ro_runsOn_36 37 rfl (by decide) ?_
      refine jj_icmp_ne X d_ro_runsOn_37 44 40 (by decide) rfl (fun c37 => ?_) (fun c37 => ?_)
      · refine jj_iconst (v := 0) X d_ro_runsOn_44 45 rfl (by decide) ?_
        exact jj_zret X hr hlk d_ro_runsOn_45 (rfl) (⟨by simp [ruC, b2, *], rfl⟩)
      · refine jj_iconst (v := 1) X d_ro_runsOn_40 41 rfl (by decide) ?_
        refine jj_goto X d_ro_runsOn_41 45 (by decide) ?_
        exact jj_zret X hr hlk d_ro_runsOn_45 (rfl) (⟨by simp [ruC, b2, *], rfl⟩)
set_option maxRecDepth 100000 in
set_option maxHeartbeats 4000000 in
theorem c_ro_firstRun (l : Launch) (D : va_G) (cI cZ : ClassId) (q : Nat → Nat) (A : Rows) (n : Nat) (x : Int32) (e0 : Nat) (hn : A 0 2 = nI n) (hle : n ≤ 60) (hx : vp_in x 40) (he0 : e0 ≤ 100000) : mt_I l D cls_ [(cI, .int), (cZ, .boolean)] nst_ y_ro_firstRun (Cond.code y_ro_firstRun b_ro_firstRun 4 (some .int) :: gt_) (rmd 2) [.ref (q 2), .int x, .int (nI e0)] (tw cI cZ q A) (fun r u => r = x_fst A n x (100000 - e0) e0 ∧ u = tw cI cZ q A) := by
  refine mt_I_of (by decide) (Nat.le_of_ble_eq_true rfl) ?_
  intro p e s m below meth c AA X hr hlk
  refine jj_lve (lv' := [(0, .ref (q 2)), (1, .int x), (2, .int (nI e0))]) rfl ?_
  refine jj_iload_n X d_ro_firstRun_0 1 rfl 2 rfl ?_
  refine jj_istore_n (lv' := [(0, .ref (q 2)), (1, .int x), (2, .int (nI e0)), (3, .int (nI e0))]) X d_ro_firstRun_1 2 rfl (by decide) rfl rfl ?_
  refine jj_loop (fun (t : Nat) => t ≤ 100000 ∧ x_fst A n x (100000 - t) t = x_fst A n x (100000 - e0) e0) (fun (t : Nat) => 100000 - t) (fun (t : Nat) => [(0, .ref (q 2)), (1, .int x), (2, .int (nI e0)), (3, .int (nI t))]) (fun (t : Nat) => []) (fun (t : Nat) => tw cI cZ q A) (e0) (⟨he0, rfl⟩) rfl rfl rfl ?_
  rintro t hI ih2
  try dsimp only at hI ih2 ⊢
  obtain ⟨ht, hf⟩ := hI
  refine jj_iload_n X d_ro_firstRun_2 3 rfl 3 rfl ?_
  refine jj_ldc (v := 99999) X d_ro_firstRun_3 5 rfl o_ro_45 ?_
  refine jj_icmp_gt X d_ro_firstRun_5 25 8 (by decide) rfl (fun c5 => ?_) (fun c5 => ?_)
  · have htn : t = 100000 := by have := nI_ltD (a := 99999) (b := t) c5 (by omega) (by omega); omega
    subst htn
    refine jj_iconst (v := -1) X d_ro_firstRun_25 26 rfl (by decide) ?_
    exact jj_iret X hr hlk d_ro_firstRun_26 (⟨by rw [← hf]; rfl, rfl⟩)
  · have htn : t < 100000 := by have := nI_nltD (a := 99999) (b := t) c5 (by omega) (by omega); omega
    refine jj_aload_n X d_ro_firstRun_8 9 rfl 0 rfl ?_
    refine jj_iload_n X d_ro_firstRun_9 10 rfl 1 rfl ?_
    refine jj_iload_n X d_ro_firstRun_10 11 rfl 3 rfl ?_
    refine jj_callV0 (st := []) X d_ro_firstRun_11 14 rfl (c_ro_runsOn l D cI cZ q A n x (nI t) hn hle (hx)) g_ro_46 ⟨rfl, w_ro_runsOn⟩ ⟨(Nat.le_of_ble_eq_true rfl), (Nat.le_of_ble_eq_true rfl)⟩ rfl 2 rfl rfl rfl (Nat.le_of_ble_eq_true rfl) ⟨rfl, rfl⟩ ⟨Nat.zero_le _, Nat.zero_le _⟩ (fun r u hu => ?_)
    obtain ⟨rfl, rfl⟩ := hu
    refine jj_if_eq X d_ro_firstRun_14 19 17 (by decide) rfl (fun c14 => ?_) (fun c14 => ?_)
    · have c14 := b2_f c14
      refine jj_iinc (v := nI (t + 1)) (lv' := [(0, .ref (q 2)), (1, .int x), (2, .int (nI e0)), (3, .int (nI (t + 1)))]) X d_ro_firstRun_19 22 rfl 3 rfl (ar_inc _) (by decide) rfl rfl ?_
      refine jj_goto X d_ro_firstRun_22 2 (by decide) ?_
      exact ih2 (t + 1) (⟨by omega, by rw [← hf, x_fst_s htn, if_neg (by simp [*])]⟩) (by omega)
    · have c14 := b2_t c14
      refine jj_iload_n X d_ro_firstRun_17 18 rfl 3 rfl ?_
      exact jj_iret X hr hlk d_ro_firstRun_18 (⟨by rw [← hf, x_fst_s htn, if_pos (by simp [*])], rfl⟩)
set_option maxRecDepth 100000 in
set_option maxHeartbeats 4000000 in
theorem c_ro_findQuickest (l : Launch) (D : va_G) (cI cZ : ClassId) (q : Nat → Nat) (A : Rows) (n m0 : Nat) (a b : Int32) (e0 : Nat) (hn : A 0 2 = nI n) (hle : n ≤ 60) (hm : A 0 1 = nI m0) (hml : m0 ≤ 40) (he0 : e0 ≤ 100000) : mt_I l D cls_ [(cI, .int), (cZ, .boolean)] nst_ y_ro_findQuickest (Cond.code y_ro_findQuickest b_ro_findQuickest 8 (some .int) :: gt_) (rmd 3) [.ref (q 2), .int a, .int b, .int (nI e0)] (tw cI cZ q A) (fun r u => r = x_qk A n a b e0 m0 0 (-1) 0 ∧ u = tw cI cZ q A) := by
  refine mt_I_of (by decide) (Nat.le_of_ble_eq_true rfl) ?_
  intro p e s m below meth c AA X hr hlk
  refine jj_lve (lv' := [(0, .ref (q 2)), (1, .int a), (2, .int b), (3, .int (nI e0))]) rfl ?_
  refine jj_iconst (v := -1) X d_ro_findQuickest_0 1 rfl (by decide) ?_
  refine jj_istore (lv' := [(0, .ref (q 2)), (1, .int a), (2, .int b), (3, .int (nI e0)), (4, .int (-1))]) X d_ro_findQuickest_1 3 rfl (by decide) rfl rfl ?_
  refine jj_iconst (v := 0) X d_ro_findQuickest_3 4 rfl (by decide) ?_
  refine jj_istore (lv' := [(0, .ref (q 2)), (1, .int a), (2, .int b), (3, .int (nI e0)), (4, .int (-1)), (5, .int 0)]) X d_ro_findQuickest_4 6 rfl (by decide) rfl rfl ?_
  refine jj_iconst (v := 0) X d_ro_findQuickest_6 7 rfl (by decide) ?_
  refine jj_istore (lv' := [(0, .ref (q 2)), (1, .int a), (2, .int b), (3, .int (nI e0)), (4, .int (-1)), (5, .int 0), (6, .int 0)]) X d_ro_findQuickest_7 9 rfl (by decide) rfl rfl ?_
  refine jj_loop (fun ((j, best, bd) : Nat × Int32 × Int32) => j ≤ m0 ∧ x_qk A n a b e0 (m0 - j) j best bd = x_qk A n a b e0 m0 0 (-1) 0) (fun ((j, best, bd) : Nat × Int32 × Int32) => m0 - j) (fun ((j, best, bd) : Nat × Int32 × Int32) => [(0, .ref (q 2)), (1, .int a), (2, .int b), (3, .int (nI e0)), (4, .int best), (5, .int bd), (6, .int (nI j))]) (fun ((j, best, bd) : Nat × Int32 × Int32) => []) (fun ((j, best, bd) : Nat × Int32 × Int32) => tw cI cZ q A) ((0, -1, 0)) (⟨Nat.zero_le _, rfl⟩) rfl rfl rfl ?_
  rintro ⟨j, best, bd⟩ hI ih9
  try dsimp only at hI ih9 ⊢
  obtain ⟨hj, hf⟩ := hI
  refine jj_iload X d_ro_findQuickest_9 11 rfl 6 rfl ?_
  refine jj_aload_n X d_ro_findQuickest_11 12 rfl 0 rfl ?_
  refine jj_get (v := .int (nI m0)) X d_ro_findQuickest_12 15 rfl i_ro 7 f_ro_37 2 rfl rfl (by decide) rfl (by rw [← hm]; rfl) ?_
  refine jj_icmp_ge X d_ro_findQuickest_15 91 18 (by decide) rfl (fun c15 => ?_) (fun c15 => ?_)
  · have hjm : j = m0 := Nat.le_antisymm hj (nI_leD c15 (by omega) (by omega))
    subst hjm
    refine jj_iload X d_ro_findQuickest_91 93 rfl 4 rfl ?_
    exact jj_iret X hr hlk d_ro_findQuickest_93 (⟨by rw [← hf, Nat.sub_self]; rfl, rfl⟩)
  · have hjm : j < m0 := nI_nleD c15 (by omega) (by omega)
    refine jj_aload_n X d_ro_findQuickest_18 19 rfl 0 rfl ?_
    refine jj_iload X d_ro_findQuickest_19 21 rfl 6 rfl ?_
    refine jj_iload_n X d_ro_findQuickest_21 22 rfl 1 rfl ?_
    refine jj_iload_n X d_ro_findQuickest_22 23 rfl 2 rfl ?_
    refine jj_callV0 (st := []) X d_ro_findQuickest_23 26 rfl (c_ro_joins l D cI cZ q A (nI j) a b (vp_in_nI (by omega) (by omega))) g_ro_50 ⟨rfl, w_ro_joins⟩ ⟨(Nat.le_of_ble_eq_true rfl), (Nat.le_of_ble_eq_true rfl)⟩ rfl 2 rfl rfl rfl (Nat.le_of_ble_eq_true rfl) ⟨rfl, rfl⟩ ⟨Nat.zero_le _, Nat.zero_le _⟩ (fun r u hu => ?_)
    obtain ⟨rfl, rfl⟩ := hu
    refine jj_if_eq X d_ro_findQuickest_26 39 29 (by decide) rfl (fun c26 => ?_) (fun c26 => ?_)
    · have c26 := b2_f c26
      refine jj_iconst (v := -1) X d_ro_findQuickest_39 40 rfl (by decide) ?_
      refine jj_istore (lv' := [(0, .ref (q 2)), (1, .int a), (2, .int b), (3, .int (nI e0)), (4, .int best), (5, .int bd), (6, .int (nI j)), (7, .int (-1))]) X d_ro_findQuickest_40 42 rfl (by decide) rfl rfl ?_
      refine jj_iload X d_ro_findQuickest_42 44 rfl 7 rfl ?_
      refine jj_iconst (v := -1) X d_ro_findQuickest_44 45 rfl (by decide) ?_
      refine jj_icmp_eq X d_ro_findQuickest_45 85 48 (by decide) rfl (fun c45 => ?_) (fun c45 => ?_)
      · refine jj_iinc (v := nI (j + 1)) (lv' := [(0, .ref (q 2)), (1, .int a), (2, .int b), (3, .int (nI e0)), (4, .int best), (5, .int bd), (6, .int (nI (j + 1))), (7, .int (-1))]) X d_ro_findQuickest_85 88 rfl 6 rfl (ar_inc _) (by decide) rfl rfl ?_
        refine jj_goto X d_ro_findQuickest_88 9 (by decide) ?_
        refine jj_lvs (lv' := [(0, .ref (q 2)), (1, .int a), (2, .int b), (3, .int (nI e0)), (4, .int best), (5, .int bd), (6, .int (nI (j + 1)))]) (by simp) ?_
        exact ih9 ((j + 1, best, bd)) (⟨by omega, by rw [← hf, x_qk_s hjm]; simp [*]⟩) (by simp only; omega)
      · exact absurd c45 (by decide)
    · have c26 := b2_t c26
      refine jj_aload_n X d_ro_findQuickest_29 30 rfl 0 rfl ?_
      refine jj_iload X d_ro_findQuickest_30 32 rfl 6 rfl ?_
      refine jj_iload_n X d_ro_findQuickest_32 33 rfl 3 rfl ?_
      refine jj_callV0 (st := []) X d_ro_findQuickest_33 36 rfl (c_ro_firstRun l D cI cZ q A n (nI j) e0 hn hle (vp_in_nI (by omega) (by omega)) (he0)) g_ro_54 ⟨rfl, w_ro_firstRun⟩ ⟨(Nat.le_of_ble_eq_true rfl), (Nat.le_of_ble_eq_true rfl)⟩ rfl 2 rfl rfl rfl (Nat.le_of_ble_eq_true rfl) ⟨rfl, rfl⟩ ⟨Nat.zero_le _, Nat.zero_le _⟩ (fun r u hu => ?_)
      obtain ⟨rfl, rfl⟩ := hu
      refine jj_goto X d_ro_findQuickest_36 40 (by decide) ?_
      refine jj_istore (lv' := [(0, .ref (q 2)), (1, .int a), (2, .int b), (3, .int (nI e0)), (4, .int best), (5, .int bd), (6, .int (nI j)), (7, .int (x_fst A n (nI j) (100000 - e0) e0))]) X d_ro_findQuickest_40 42 rfl (by decide) rfl rfl ?_
      refine jj_iload X d_ro_findQuickest_42 44 rfl 7 rfl ?_
      refine jj_iconst (v := -1) X d_ro_findQuickest_44 45 rfl (by decide) ?_
      refine jj_icmp_eq X d_ro_findQuickest_45 85 48 (by decide) rfl (fun c45 => ?_) (fun c45 => ?_)
      · refine jj_iinc (v := nI (j + 1)) (lv' := [(0, .ref (q 2)), (1, .int a), (2, .int b), (3, .int (nI e0)), (4, .int best), (5, .int bd), (6, .int (nI (j + 1))), (7, .int (x_fst A n (nI j) (100000 - e0) e0))]) X d_ro_findQuickest_85 88 rfl 6 rfl (ar_inc _) (by decide) rfl rfl ?_
        refine jj_goto X d_ro_findQuickest_88 9 (by decide) ?_
        refine jj_lvs (lv' := [(0, .ref (q 2)), (1, .int a), (2, .int b), (3, .int (nI e0)), (4, .int best), (5, .int bd), (6, .int (nI (j + 1)))]) (by simp) ?_
        exact ih9 ((j + 1, best, bd)) (⟨by omega, by rw [← hf, x_qk_s hjm]; simp [*]⟩) (by simp only; omega)
      · refine jj_iload X d_ro_findQuickest_48 50 rfl 4 rfl ?_
        refine jj_iconst (v := -1) X d_ro_findQuickest_50 51 rfl (by decide) ?_
        refine jj_icmp_eq X d_ro_findQuickest_51 69 54 (by decide) rfl (fun c51 => ?_) (fun c51 => ?_)
        · refine jj_iload X d_ro_findQuickest_69 71 rfl 6 rfl ?_
          refine jj_istore (lv' := [(0, .ref (q 2)), (1, .int a), (2, .int b), (3, .int (nI e0)), (4, .int (nI j)), (5, .int bd), (6, .int (nI j)), (7, .int (x_fst A n (nI j) (100000 - e0) e0))]) X d_ro_findQuickest_71 73 rfl (by decide) rfl rfl ?_
          refine jj_iload X d_ro_findQuickest_73 75 rfl 7 rfl ?_
          refine jj_aload_n X d_ro_findQuickest_75 76 rfl 0 rfl ?_
          refine jj_get (v := .ref (q 12)) X d_ro_findQuickest_76 79 rfl i_ro 3 f_ro_21 2 rfl rfl (by decide) rfl rfl ?_
          refine jj_iload X d_ro_findQuickest_79 81 rfl 6 rfl ?_
          refine jj_iald (v := A 5 j) X d_ro_findQuickest_81 82 rfl 12 0 rfl rfl (vp_in_nI (by omega) (by omega)) (ar_cl (by omega)) ?_
          refine jj_iadd X d_ro_findQuickest_82 83 rfl ?_
          refine jj_istore (lv' := [(0, .ref (q 2)), (1, .int a), (2, .int b), (3, .int (nI e0)), (4, .int (nI j)), (5, .int ((x_fst A n (nI j) (100000 - e0) e0) + (A 5 j))), (6, .int (nI j)), (7, .int (x_fst A n (nI j) (100000 - e0) e0))]) X d_ro_findQuickest_83 85 rfl (by decide) rfl rfl ?_
          refine jj_iinc (v := nI (j + 1)) (lv' := [(0, .ref (q 2)), (1, .int a), (2, .int b), (3, .int (nI e0)), (4, .int (nI j)), (5, .int ((x_fst A n (nI j) (100000 - e0) e0) + (A 5 j))), (6, .int (nI (j + 1))), (7, .int (x_fst A n (nI j) (100000 - e0) e0))]) X d_ro_findQuickest_85 88 rfl 6 rfl (ar_inc _) (by decide) rfl rfl ?_
          refine jj_goto X d_ro_findQuickest_88 9 (by decide) ?_
          refine jj_lvs (lv' := [(0, .ref (q 2)), (1, .int a), (2, .int b), (3, .int (nI e0)), (4, .int (nI j)), (5, .int ((x_fst A n (nI j) (100000 - e0) e0) + (A 5 j))), (6, .int (nI (j + 1)))]) (by simp) ?_
          exact ih9 ((j + 1, nI j, (x_fst A n (nI j) (100000 - e0) e0) + (A 5 j))) (⟨by omega, by rw [← hf, x_qk_s hjm]; simp [*]⟩) (by simp only; omega)
        · refine jj_iload X d_ro_findQuickest_54 56 rfl 7 rfl ?_
          refine jj_aload_n X d_ro_findQuickest_56 57 rfl 0 rfl ?_
          refine jj_get (v := .ref (q 12)) X d_ro_findQuickest_57 60 rfl i_ro 3 f_ro_21 2 rfl rfl (by decide) rfl rfl ?_
          refine jj_iload X d_ro_findQuickest_60 62 rfl 6 rfl ?_
          refine jj_iald (v := A 5 j) X d_ro_findQuickest_62 63 rfl 12 0 rfl rfl (vp_in_nI (by omega) (by omega)) (ar_cl (by omega)) ?_
          refine jj_iadd X d_ro_findQuickest_63 64 rfl ?_
          refine jj_iload X d_ro_findQuickest_64 66 rfl 5 rfl ?_
          refine jj_icmp_ge X d_ro_findQuickest_66 85 69 (by decide) rfl (fun c66 => ?_) (fun c66 => ?_)
          · have c66 := Int32.not_lt.mpr c66
            refine jj_iinc (v := nI (j + 1)) (lv' := [(0, .ref (q 2)), (1, .int a), (2, .int b), (3, .int (nI e0)), (4, .int best), (5, .int bd), (6, .int (nI (j + 1))), (7, .int (x_fst A n (nI j) (100000 - e0) e0))]) X d_ro_findQuickest_85 88 rfl 6 rfl (ar_inc _) (by decide) rfl rfl ?_
            refine jj_goto X d_ro_findQuickest_88 9 (by decide) ?_
            refine jj_lvs (lv' := [(0, .ref (q 2)), (1, .int a), (2, .int b), (3, .int (nI e0)), (4, .int best), (5, .int bd), (6, .int (nI (j + 1)))]) (by simp) ?_
            exact ih9 ((j + 1, best, bd)) (⟨by omega, by rw [← hf, x_qk_s hjm]; simp [*]⟩) (by simp only; omega)
          · have c66 := Int32.not_le.mp c66
            refine jj_iload X d_ro_findQuickest_69 71 rfl 6 rfl ?_
            refine jj_istore (lv' := [(0, .ref (q 2)), (1, .int a), (2, .int b), (3, .int (nI e0)), (4, .int (nI j)), (5, .int bd), (6, .int (nI j)), (7, .int (x_fst A n (nI j) (100000 - e0) e0))]) X d_ro_findQuickest_71 73 rfl (by decide) rfl rfl ?_
            refine jj_iload X d_ro_findQuickest_73 75 rfl 7 rfl ?_
            refine jj_aload_n X d_ro_findQuickest_75 76 rfl 0 rfl ?_
            refine jj_get (v := .ref (q 12)) X d_ro_findQuickest_76 79 rfl i_ro 3 f_ro_21 2 rfl rfl (by decide) rfl rfl ?_
            refine jj_iload X d_ro_findQuickest_79 81 rfl 6 rfl ?_
            refine jj_iald (v := A 5 j) X d_ro_findQuickest_81 82 rfl 12 0 rfl rfl (vp_in_nI (by omega) (by omega)) (ar_cl (by omega)) ?_
            refine jj_iadd X d_ro_findQuickest_82 83 rfl ?_
            refine jj_istore (lv' := [(0, .ref (q 2)), (1, .int a), (2, .int b), (3, .int (nI e0)), (4, .int (nI j)), (5, .int ((x_fst A n (nI j) (100000 - e0) e0) + (A 5 j))), (6, .int (nI j)), (7, .int (x_fst A n (nI j) (100000 - e0) e0))]) X d_ro_findQuickest_83 85 rfl (by decide) rfl rfl ?_
            refine jj_iinc (v := nI (j + 1)) (lv' := [(0, .ref (q 2)), (1, .int a), (2, .int b), (3, .int (nI e0)), (4, .int (nI j)), (5, .int ((x_fst A n (nI j) (100000 - e0) e0) + (A 5 j))), (6, .int (nI (j + 1))), (7, .int (x_fst A n (nI j) (100000 - e0) e0))]) X d_ro_findQuickest_85 88 rfl 6 rfl (ar_inc _) (by decide) rfl rfl ?_
            refine jj_goto X d_ro_findQuickest_88 9 (by decide) ?_
            refine jj_lvs (lv' := [(0, .ref (q 2)), (1, .int a), (2, .int b), (3, .int (nI e0)), (4, .int (nI j)), (5, .int ((x_fst A n (nI j) (100000 - e0) e0) + (A 5 j))), (6, .int (nI (j + 1)))]) (by simp) ?_
            exact ih9 ((j + 1, nI j, (x_fst A n (nI j) (100000 - e0) e0) + (A 5 j))) (⟨by omega, by rw [← hf, x_qk_s hjm]; simp [*]⟩) (by simp only; omega)
set_option maxRecDepth 100000 in
set_option maxHeartbeats 4000000 in
theorem c_sl_isUnderWay (l : Launch) (D : va_G) (cI cZ : ClassId) (q : Nat → Nat) (A : Rows) (x : Int32) (hx : vp_in x 151) : mt_I l D cls_ [(cI, .int), (cZ, .boolean)] nst_ y_sl_isUnderWay (Cond.code y_sl_isUnderWay b_sl_isUnderWay 2 (some .boolean) :: gt_) (rmd 0) [.ref (q 5), .int x] (tw cI cZ q A) (fun r u => r = b2 (uwC A x) ∧ u = tw cI cZ q A) := by
  refine mt_I_of (by decide) (Nat.le_of_ble_eq_true rfl) ?_
  intro p e s m below meth c AA X hr hlk
  refine jj_lve (lv' := [(0, .ref (q 5)), (1, .int x)]) rfl ?_
  refine jj_aload_n X d_sl_isUnderWay_0 1 rfl 0 rfl ?_
  refine jj_get (v := .ref (q 24)) X d_sl_isUnderWay_1 4 rfl i_sl 2 f_sl_18 5 rfl rfl (by decide) rfl rfl ?_
  refine jj_iload_n X d_sl_isUnderWay_4 5 rfl 1 rfl ?_
  refine jj_iald (v := A 17 x.toNatClampNeg) X d_sl_isUnderWay_5 6 rfl 24 0 rfl rfl (by assumption) (rfl) ?_
  refine jj_iconst (v := 1) X d_sl_isUnderWay_6 7 rfl (by decide) ?_
  refine jj_icmp_eq X d_sl_isUnderWay_7 20 10 (by decide) rfl (fun c7 => ?_) (fun c7 => ?_)
  · refine jj_iconst (v := 1) X d_sl_isUnderWay_20 21 rfl (by decide) ?_
    refine jj_goto X d_sl_isUnderWay_21 25 (by decide) ?_
    exact jj_zret X hr hlk d_sl_isUnderWay_25 (rfl) (⟨by simp [uwC, b2, *], rfl⟩)
  · refine jj_aload_n X d_sl_isUnderWay_10 11 rfl 0 rfl ?_
    refine jj_get (v := .ref (q 24)) X d_sl_isUnderWay_11 14 rfl i_sl 2 f_sl_18 5 rfl rfl (by decide) rfl rfl ?_
    refine jj_iload_n X d_sl_isUnderWay_14 15 rfl 1 rfl ?_
    refine jj_iald (v := A 17 x.toNatClampNeg) X d_sl_isUnderWay_15 16 rfl 24 0 rfl rfl (by assumption) (rfl) ?_
    refine jj_iconst (v := 3) X d_sl_isUnderWay_16 17 rfl (by decide) ?_
    refine jj_icmp_ne X d_sl_isUnderWay_17 24 20 (by decide) rfl (fun c17 => ?_) (fun c17 => ?_)
    · refine jj_iconst (v := 0) X d_sl_isUnderWay_24 25 rfl (by decide) ?_
      exact jj_zret X hr hlk d_sl_isUnderWay_25 (rfl) (⟨by simp [uwC, b2, *], rfl⟩)
    · refine jj_iconst (v := 1) X d_sl_isUnderWay_20 21 rfl (by decide) ?_
      refine jj_goto X d_sl_isUnderWay_21 25 (by decide) ?_
      exact jj_zret X hr hlk d_sl_isUnderWay_25 (rfl) (⟨by simp [uwC, b2, *], rfl⟩)
set_option maxRecDepth 100000 in
set_option maxHeartbeats 4000000 in
theorem c_sl_add (l : Launch) (D : va_G) (cI cZ : ClassId) (q : Nat → Nat) (A : Rows) (n : Nat) (a1 a2 a3 a4 : Int32) (hn : A 0 4 = nI n) (hle : n < 150) : mt_I l D cls_ [(cI, .int), (cZ, .boolean)] nst_ y_sl_add (Cond.code y_sl_add b_sl_add 5 (some .int) :: gt_) (rmd 0) [.ref (q 5), .int a1, .int a2, .int a3, .int a4] (tw cI cZ q A) (fun r u => r = nI (n + 1) ∧ u = tw cI cZ q ((ua (ua (ua (ua (ua (ua (ua A 0 (uz (A 0) 4 (nI (n + 1)))) 15 (upd (A 15) (n + 1) a1)) 16 (upd (A 16) (n + 1) a2)) 17 (upd (A 17) (n + 1) 0)) 18 (upd (A 18) (n + 1) a3)) 19 (upd (A 19) (n + 1) a4)) 20 (upd (A 20) (n + 1) (-1))))) := by
  refine mt_I_of (by decide) (Nat.le_of_ble_eq_true rfl) ?_
  intro p e s m below meth c AA X hr hlk
  refine jj_lve (lv' := [(0, .ref (q 5)), (1, .int a1), (2, .int a2), (3, .int a3), (4, .int a4)]) rfl ?_
  refine jj_aload_n X d_sl_add_0 1 rfl 0 rfl ?_
  refine jj_dup X d_sl_add_1 2 rfl rfl ?_
  refine jj_get (v := .int (nI n)) X d_sl_add_2 5 rfl i_sl 6 f_sl_30 5 rfl rfl (by decide) rfl (by rw [← hn]; rfl) ?_
  refine jj_iconst (v := 1) X d_sl_add_5 6 rfl (by decide) ?_
  refine jj_iadd X d_sl_add_6 7 rfl ?_
  refine jj_topv (y := nI (n + 1)) (nI_1 _) ?_
  refine jj_put (ty := .int) (ws' := tw cI cZ q ((ua A 0 (uz (A 0) 4 (nI (n + 1)))))) X d_sl_add_7 10 rfl i_sl t_sl t_sl_ok n_sl 6 f_sl_30 5 rfl rfl (by decide) rfl rfl (by decide +kernel) rfl rfl (Nat.le_of_ble_eq_true rfl) rfl ?_
  refine jj_aload_n X d_sl_add_10 11 rfl 0 rfl ?_
  refine jj_get (v := .ref (q 22)) X d_sl_add_11 14 rfl i_sl 0 f_sl_9 5 rfl rfl (by decide) rfl rfl ?_
  refine jj_aload_n X d_sl_add_14 15 rfl 0 rfl ?_
  refine jj_get (v := .int (nI (n + 1))) X d_sl_add_15 18 rfl i_sl 6 f_sl_30 5 rfl rfl (by decide) rfl rfl ?_
  refine jj_iload_n X d_sl_add_18 19 rfl 1 rfl ?_
  refine jj_iast (ws' := tw cI cZ q ((ua (ua A 0 (uz (A 0) 4 (nI (n + 1)))) 15 (upd (A 15) ((n + 1)) a1)))) X d_sl_add_19 20 rfl 22 0 rfl rfl (vp_in_nI (by omega) (by omega)) (by rw [nI_clamp (by omega)]; rfl) ?_
  refine jj_aload_n X d_sl_add_20 21 rfl 0 rfl ?_
  refine jj_get (v := .ref (q 23)) X d_sl_add_21 24 rfl i_sl 1 f_sl_15 5 rfl rfl (by decide) rfl rfl ?_
  refine jj_aload_n X d_sl_add_24 25 rfl 0 rfl ?_
  refine jj_get (v := .int (nI (n + 1))) X d_sl_add_25 28 rfl i_sl 6 f_sl_30 5 rfl rfl (by decide) rfl rfl ?_
  refine jj_iload_n X d_sl_add_28 29 rfl 2 rfl ?_
  refine jj_iast (ws' := tw cI cZ q ((ua (ua (ua A 0 (uz (A 0) 4 (nI (n + 1)))) 15 (upd (A 15) ((n + 1)) a1)) 16 (upd (A 16) ((n + 1)) a2)))) X d_sl_add_29 30 rfl 23 0 rfl rfl (vp_in_nI (by omega) (by omega)) (by rw [nI_clamp (by omega)]; rfl) ?_
  refine jj_aload_n X d_sl_add_30 31 rfl 0 rfl ?_
  refine jj_get (v := .ref (q 24)) X d_sl_add_31 34 rfl i_sl 2 f_sl_18 5 rfl rfl (by decide) rfl rfl ?_
  refine jj_aload_n X d_sl_add_34 35 rfl 0 rfl ?_
  refine jj_get (v := .int (nI (n + 1))) X d_sl_add_35 38 rfl i_sl 6 f_sl_30 5 rfl rfl (by decide) rfl rfl ?_
  refine jj_iconst (v := 0) X d_sl_add_38 39 rfl (by decide) ?_
  refine jj_iast (ws' := tw cI cZ q ((ua (ua (ua (ua A 0 (uz (A 0) 4 (nI (n + 1)))) 15 (upd (A 15) ((n + 1)) a1)) 16 (upd (A 16) ((n + 1)) a2)) 17 (upd (A 17) ((n + 1)) 0)))) X d_sl_add_39 40 rfl 24 0 rfl rfl (vp_in_nI (by omega) (by omega)) (by rw [nI_clamp (by omega)]; rfl) ?_
  refine jj_aload_n X d_sl_add_40 41 rfl 0 rfl ?_
  refine jj_get (v := .ref (q 25)) X d_sl_add_41 44 rfl i_sl 3 f_sl_21 5 rfl rfl (by decide) rfl rfl ?_
  refine jj_aload_n X d_sl_add_44 45 rfl 0 rfl ?_
  refine jj_get (v := .int (nI (n + 1))) X d_sl_add_45 48 rfl i_sl 6 f_sl_30 5 rfl rfl (by decide) rfl rfl ?_
  refine jj_iload_n X d_sl_add_48 49 rfl 3 rfl ?_
  refine jj_iast (ws' := tw cI cZ q ((ua (ua (ua (ua (ua A 0 (uz (A 0) 4 (nI (n + 1)))) 15 (upd (A 15) ((n + 1)) a1)) 16 (upd (A 16) ((n + 1)) a2)) 17 (upd (A 17) ((n + 1)) 0)) 18 (upd (A 18) ((n + 1)) a3)))) X d_sl_add_49 50 rfl 25 0 rfl rfl (vp_in_nI (by omega) (by omega)) (by rw [nI_clamp (by omega)]; rfl) ?_
  refine jj_aload_n X d_sl_add_50 51 rfl 0 rfl ?_
  refine jj_get (v := .ref (q 26)) X d_sl_add_51 54 rfl i_sl 4 f_sl_24 5 rfl rfl (by decide) rfl rfl ?_
  refine jj_aload_n X d_sl_add_54 55 rfl 0 rfl ?_
  refine jj_get (v := .int (nI (n + 1))) X d_sl_add_55 58 rfl i_sl 6 f_sl_30 5 rfl rfl (by decide) rfl rfl ?_
  refine jj_iload X d_sl_add_58 60 rfl 4 rfl ?_
  refine jj_iast (ws' := tw cI cZ q ((ua (ua (ua (ua (ua (ua A 0 (uz (A 0) 4 (nI (n + 1)))) 15 (upd (A 15) ((n + 1)) a1)) 16 (upd (A 16) ((n + 1)) a2)) 17 (upd (A 17) ((n + 1)) 0)) 18 (upd (A 18) ((n + 1)) a3)) 19 (upd (A 19) ((n + 1)) a4)))) X d_sl_add_60 61 rfl 26 0 rfl rfl (vp_in_nI (by omega) (by omega)) (by rw [nI_clamp (by omega)]; rfl) ?_
  refine jj_aload_n X d_sl_add_61 62 rfl 0 rfl ?_
  refine jj_get (v := .ref (q 27)) X d_sl_add_62 65 rfl i_sl 5 f_sl_27 5 rfl rfl (by decide) rfl rfl ?_
  refine jj_aload_n X d_sl_add_65 66 rfl 0 rfl ?_
  refine jj_get (v := .int (nI (n + 1))) X d_sl_add_66 69 rfl i_sl 6 f_sl_30 5 rfl rfl (by decide) rfl rfl ?_
  refine jj_iconst (v := -1) X d_sl_add_69 70 rfl (by decide) ?_
  refine jj_iast (ws' := tw cI cZ q ((ua (ua (ua (ua (ua (ua (ua A 0 (uz (A 0) 4 (nI (n + 1)))) 15 (upd (A 15) ((n + 1)) a1)) 16 (upd (A 16) ((n + 1)) a2)) 17 (upd (A 17) ((n + 1)) 0)) 18 (upd (A 18) ((n + 1)) a3)) 19 (upd (A 19) ((n + 1)) a4)) 20 (upd (A 20) ((n + 1)) (-1))))) X d_sl_add_70 71 rfl 27 0 rfl rfl (vp_in_nI (by omega) (by omega)) (by rw [nI_clamp (by omega)]; rfl) ?_
  refine jj_aload_n X d_sl_add_71 72 rfl 0 rfl ?_
  refine jj_get (v := .int (nI (n + 1))) X d_sl_add_72 75 rfl i_sl 6 f_sl_30 5 rfl rfl (by decide) rfl rfl ?_
  exact jj_iret X hr hlk d_sl_add_75 (⟨rfl, rfl⟩)
set_option maxRecDepth 100000 in
set_option maxHeartbeats 4000000 in
theorem c_te_add (l : Launch) (D : va_G) (cI cZ : ClassId) (q : Nat → Nat) (A : Rows) (n : Nat) (a b : Int32) (hn : A 0 6 = nI n) (hle : n ≤ 100) : mt_V l D cls_ [(cI, .int), (cZ, .boolean)] nst_ y_te_add (Cond.code y_te_add b_te_add 3 none :: gt_) (rmd 0) [.ref (q 7), .int a, .int b] (tw cI cZ q A) (fun u => u = tw cI cZ q (if n < 100 then (ua (ua (ua A 0 (uz (A 0) 6 (nI (n + 1)))) 23 (upd (A 23) n a)) 24 (upd (A 24) n b)) else A)) := by
  refine mt_V_of (by decide) (Nat.le_of_ble_eq_true rfl) ?_
  intro p e s m below meth c AA X hr hlk hnm
  refine jj_lve (lv' := [(0, .ref (q 7)), (1, .int a), (2, .int b)]) rfl ?_
  refine jj_aload_n X d_te_add_0 1 rfl 0 rfl ?_
  refine jj_get (v := .int (nI n)) X d_te_add_1 4 rfl i_te 2 f_te_18 7 rfl rfl (by decide) rfl (by rw [← hn]; rfl) ?_
  refine jj_bipush (v := 100) X d_te_add_4 6 rfl (by decide) ?_
  refine jj_icmp_ge X d_te_add_6 39 9 (by decide) rfl (fun c6 => ?_) (fun c6 => ?_)
  · have hnn : ¬ n < 100 := by have := nI_leD (a := 100) (b := n) c6 (by omega) (by omega); omega
    exact jj_vret X hr hlk d_te_add_39 (by simp [hnn])
  · have hnn : n < 100 := nI_nleD (a := 100) (b := n) c6 (by omega) (by omega)
    refine jj_aload_n X d_te_add_9 10 rfl 0 rfl ?_
    refine jj_get (v := .ref (q 30)) X d_te_add_10 13 rfl i_te 0 f_te_9 7 rfl rfl (by decide) rfl rfl ?_
    refine jj_aload_n X d_te_add_13 14 rfl 0 rfl ?_
    refine jj_get (v := .int (nI n)) X d_te_add_14 17 rfl i_te 2 f_te_18 7 rfl rfl (by decide) rfl (by rw [← hn]; rfl) ?_
    refine jj_iload_n X d_te_add_17 18 rfl 1 rfl ?_
    refine jj_iast (ws' := tw cI cZ q ((ua A 23 (upd (A 23) n a)))) X d_te_add_18 19 rfl 30 0 rfl rfl (vp_in_nI (by omega) (by omega)) (by rw [nI_clamp (by omega)]; rfl) ?_
    refine jj_aload_n X d_te_add_19 20 rfl 0 rfl ?_
    refine jj_get (v := .ref (q 31)) X d_te_add_20 23 rfl i_te 1 f_te_15 7 rfl rfl (by decide) rfl rfl ?_
    refine jj_aload_n X d_te_add_23 24 rfl 0 rfl ?_
    refine jj_get (v := .int (nI n)) X d_te_add_24 27 rfl i_te 2 f_te_18 7 rfl rfl (by decide) rfl (by rw [← hn]; rfl) ?_
    refine jj_iload_n X d_te_add_27 28 rfl 2 rfl ?_
    refine jj_iast (ws' := tw cI cZ q ((ua (ua A 23 (upd (A 23) n a)) 24 (upd (A 24) n b)))) X d_te_add_28 29 rfl 31 0 rfl rfl (vp_in_nI (by omega) (by omega)) (by rw [nI_clamp (by omega)]; rfl) ?_
    refine jj_aload_n X d_te_add_29 30 rfl 0 rfl ?_
    refine jj_dup X d_te_add_30 31 rfl rfl ?_
    refine jj_get (v := .int (nI n)) X d_te_add_31 34 rfl i_te 2 f_te_18 7 rfl rfl (by decide) rfl (by rw [← hn]; rfl) ?_
    refine jj_iconst (v := 1) X d_te_add_34 35 rfl (by decide) ?_
    refine jj_iadd X d_te_add_35 36 rfl ?_
    refine jj_topv (y := nI (n + 1)) (nI_1 _) ?_
    refine jj_put (ty := .int) (ws' := tw cI cZ q ((ua (ua (ua A 0 (uz (A 0) 6 (nI (n + 1)))) 23 (upd (A 23) n a)) 24 (upd (A 24) n b)))) X d_te_add_36 39 rfl i_te t_te t_te_ok n_te 2 f_te_18 7 rfl rfl (by decide) rfl rfl (by decide +kernel) rfl rfl (Nat.le_of_ble_eq_true rfl) rfl ?_
    exact jj_vret X hr hlk d_te_add_39 (by simp [hnn])
end
section
set_option maxRecDepth 100000 in
set_option maxHeartbeats 4000000 in
theorem c_ld_begin (l : Launch) (D : va_G) (cI cZ : ClassId) (q : Nat → Nat) (A : Rows) (n : Nat) (hn : A 0 5 = nI n) (hle : n < 60) : mt_I l D cls_ [(cI, .int), (cZ, .boolean)] nst_ y_ld_begin (Cond.code y_ld_begin b_ld_begin 1 (some .int) :: gt_) (rmd 0) [.ref (q 6)] (tw cI cZ q A) (fun r u => r = nI (n + 1) ∧ u = tw cI cZ q ((ua (ua A 0 (uz (A 0) 5 (nI (n + 1)))) 21 (upd (A 21) (n + 1) (A 21 n))))) := by
  refine mt_I_of (by decide) (Nat.le_of_ble_eq_true rfl) ?_
  intro p e s m below meth c AA X hr hlk
  refine jj_lve (lv' := [(0, .ref (q 6))]) rfl ?_
  refine jj_aload_n X d_ld_begin_0 1 rfl 0 rfl ?_
  refine jj_dup X d_ld_begin_1 2 rfl rfl ?_
  refine jj_get (v := .int (nI n)) X d_ld_begin_2 5 rfl i_ld 2 f_ld_18 6 rfl rfl (by decide) rfl (by rw [← hn]; rfl) ?_
  refine jj_iconst (v := 1) X d_ld_begin_5 6 rfl (by decide) ?_
  refine jj_iadd X d_ld_begin_6 7 rfl ?_
  refine jj_topv (y := nI (n + 1)) (nI_1 _) ?_
  refine jj_put (ty := .int) (ws' := tw cI cZ q ((ua A 0 (uz (A 0) 5 (nI (n + 1)))))) X d_ld_begin_7 10 rfl i_ld t_ld t_ld_ok n_ld 2 f_ld_18 6 rfl rfl (by decide) rfl rfl (by decide +kernel) rfl rfl (Nat.le_of_ble_eq_true rfl) rfl ?_
  refine jj_aload_n X d_ld_begin_10 11 rfl 0 rfl ?_
  refine jj_get (v := .ref (q 28)) X d_ld_begin_11 14 rfl i_ld 0 f_ld_9 6 rfl rfl (by decide) rfl rfl ?_
  refine jj_aload_n X d_ld_begin_14 15 rfl 0 rfl ?_
  refine jj_get (v := .int (nI (n + 1))) X d_ld_begin_15 18 rfl i_ld 2 f_ld_18 6 rfl rfl (by decide) rfl rfl ?_
  refine jj_aload_n X d_ld_begin_18 19 rfl 0 rfl ?_
  refine jj_get (v := .ref (q 28)) X d_ld_begin_19 22 rfl i_ld 0 f_ld_9 6 rfl rfl (by decide) rfl rfl ?_
  refine jj_aload_n X d_ld_begin_22 23 rfl 0 rfl ?_
  refine jj_get (v := .int (nI (n + 1))) X d_ld_begin_23 26 rfl i_ld 2 f_ld_18 6 rfl rfl (by decide) rfl rfl ?_
  refine jj_iconst (v := 1) X d_ld_begin_26 27 rfl (by decide) ?_
  refine jj_isub X d_ld_begin_27 28 rfl ?_
  refine jj_topv (y := nI n) (nI_pred _) ?_
  refine jj_iald (v := A 21 n) X d_ld_begin_28 29 rfl 28 0 rfl rfl (vp_in_nI (by omega) (by omega)) (ar_cl (by omega)) ?_
  refine jj_iast (ws' := tw cI cZ q ((ua (ua A 0 (uz (A 0) 5 (nI (n + 1)))) 21 (upd (A 21) ((n + 1)) (A 21 n))))) X d_ld_begin_29 30 rfl 28 0 rfl rfl (vp_in_nI (by omega) (by omega)) (by rw [nI_clamp (by omega)]; rfl) ?_
  refine jj_aload_n X d_ld_begin_30 31 rfl 0 rfl ?_
  refine jj_get (v := .int (nI (n + 1))) X d_ld_begin_31 34 rfl i_ld 2 f_ld_18 6 rfl rfl (by decide) rfl rfl ?_
  exact jj_iret X hr hlk d_ld_begin_34 (⟨rfl, rfl⟩)
set_option maxRecDepth 100000 in
set_option maxHeartbeats 4000000 in
theorem c_ld_put (l : Launch) (D : va_G) (cI cZ : ClassId) (q : Nat → Nat) (A : Rows) (n e0 : Nat) (x : Int32) (hn : A 0 5 = nI n) (hle : n ≤ 60) (he : A 21 n = nI e0) (hel : e0 < 150) : mt_V l D cls_ [(cI, .int), (cZ, .boolean)] nst_ y_ld_put (Cond.code y_ld_put b_ld_put 2 none :: gt_) (rmd 0) [.ref (q 6), .int x] (tw cI cZ q A) (fun u => u = tw cI cZ q ((ua (ua A 21 (upd (A 21) n (nI (e0 + 1)))) 22 (upd (A 22) e0 x)))) := by
  refine mt_V_of (by decide) (Nat.le_of_ble_eq_true rfl) ?_
  intro p e s m below meth c AA X hr hlk hnm
  refine jj_lve (lv' := [(0, .ref (q 6)), (1, .int x)]) rfl ?_
  refine jj_aload_n X d_ld_put_0 1 rfl 0 rfl ?_
  refine jj_get (v := .ref (q 29)) X d_ld_put_1 4 rfl i_ld 1 f_ld_15 6 rfl rfl (by decide) rfl rfl ?_
  refine jj_aload_n X d_ld_put_4 5 rfl 0 rfl ?_
  refine jj_get (v := .ref (q 28)) X d_ld_put_5 8 rfl i_ld 0 f_ld_9 6 rfl rfl (by decide) rfl rfl ?_
  refine jj_aload_n X d_ld_put_8 9 rfl 0 rfl ?_
  refine jj_get (v := .int (nI n)) X d_ld_put_9 12 rfl i_ld 2 f_ld_18 6 rfl rfl (by decide) rfl (by rw [← hn]; rfl) ?_
  refine jj_iald (v := nI e0) X d_ld_put_12 13 rfl 28 0 rfl rfl (vp_in_nI (by omega) (by omega)) (by rw [nI_clamp (by omega)]; exact he) ?_
  refine jj_iload_n X d_ld_put_13 14 rfl 1 rfl ?_
  refine jj_iast (ws' := tw cI cZ q ((ua A 22 (upd (A 22) e0 x)))) X d_ld_put_14 15 rfl 29 0 rfl rfl (vp_in_nI (by omega) (by omega)) (by rw [nI_clamp (by omega)]; rfl) ?_
  refine jj_aload_n X d_ld_put_15 16 rfl 0 rfl ?_
  refine jj_get (v := .ref (q 28)) X d_ld_put_16 19 rfl i_ld 0 f_ld_9 6 rfl rfl (by decide) rfl rfl ?_
  refine jj_aload_n X d_ld_put_19 20 rfl 0 rfl ?_
  refine jj_get (v := .int (nI n)) X d_ld_put_20 23 rfl i_ld 2 f_ld_18 6 rfl rfl (by decide) rfl (by rw [← hn]; rfl) ?_
  refine jj_dup2 X d_ld_put_23 24 rfl rfl rfl ?_
  refine jj_iald (v := nI e0) X d_ld_put_24 25 rfl 28 0 rfl rfl (vp_in_nI (by omega) (by omega)) (by rw [nI_clamp (by omega)]; exact he) ?_
  refine jj_iconst (v := 1) X d_ld_put_25 26 rfl (by decide) ?_
  refine jj_iadd X d_ld_put_26 27 rfl ?_
  refine jj_topv (y := nI (e0 + 1)) (nI_1 _) ?_
  refine jj_iast (ws' := tw cI cZ q ((ua (ua A 21 (upd (A 21) n (nI (e0 + 1)))) 22 (upd (A 22) e0 x)))) X d_ld_put_27 28 rfl 28 0 rfl rfl (vp_in_nI (by omega) (by omega)) (by rw [nI_clamp (by omega)]; rfl) ?_
  exact jj_vret X hr hlk d_ld_put_28 (rfl)
set_option maxRecDepth 100000 in
set_option maxHeartbeats 4000000 in
theorem c_ld_size (l : Launch) (D : va_G) (cI cZ : ClassId) (q : Nat → Nat) (A : Rows) (k0 : Nat) (hk0 : k0 < 60) : mt_I l D cls_ [(cI, .int), (cZ, .boolean)] nst_ y_ld_size (Cond.code y_ld_size b_ld_size 2 (some .int) :: gt_) (rmd 0) [.ref (q 6), .int (nI (k0 + 1))] (tw cI cZ q A) (fun r u => r = A 21 (k0 + 1) - A 21 k0 ∧ u = tw cI cZ q A) := by
  refine mt_I_of (by decide) (Nat.le_of_ble_eq_true rfl) ?_
  intro p e s m below meth c AA X hr hlk
  refine jj_lve (lv' := [(0, .ref (q 6)), (1, .int (nI (k0 + 1)))]) rfl ?_
  refine jj_aload_n X d_ld_size_0 1 rfl 0 rfl ?_
  refine jj_get (v := .ref (q 28)) X d_ld_size_1 4 rfl i_ld 0 f_ld_9 6 rfl rfl (by decide) rfl rfl ?_
  refine jj_iload_n X d_ld_size_4 5 rfl 1 rfl ?_
  refine jj_iald (v := A 21 (k0 + 1)) X d_ld_size_5 6 rfl 28 0 rfl rfl (vp_in_nI (by omega) (by omega)) (ar_cl (by omega)) ?_
  refine jj_aload_n X d_ld_size_6 7 rfl 0 rfl ?_
  refine jj_get (v := .ref (q 28)) X d_ld_size_7 10 rfl i_ld 0 f_ld_9 6 rfl rfl (by decide) rfl rfl ?_
  refine jj_iload_n X d_ld_size_10 11 rfl 1 rfl ?_
  refine jj_iconst (v := 1) X d_ld_size_11 12 rfl (by decide) ?_
  refine jj_isub X d_ld_size_12 13 rfl ?_
  refine jj_topv (y := nI k0) (nI_pred _) ?_
  refine jj_iald (v := A 21 k0) X d_ld_size_13 14 rfl 28 0 rfl rfl (vp_in_nI (by omega) (by omega)) (ar_cl (by omega)) ?_
  refine jj_isub X d_ld_size_14 15 rfl ?_
  exact jj_iret X hr hlk d_ld_size_15 (⟨rfl, rfl⟩)
set_option maxRecDepth 100000 in
set_option maxHeartbeats 4000000 in
theorem c_ld_slipAt (l : Launch) (D : va_G) (cI cZ : ClassId) (q : Nat → Nat) (A : Rows) (k0 : Nat) (i : Int32) (hk0 : k0 < 60) (hi : vp_in (A 21 k0 + i) 150) : mt_I l D cls_ [(cI, .int), (cZ, .boolean)] nst_ y_ld_slipAt (Cond.code y_ld_slipAt b_ld_slipAt 3 (some .int) :: gt_) (rmd 0) [.ref (q 6), .int (nI (k0 + 1)), .int i] (tw cI cZ q A) (fun r u => r = A 22 (A 21 k0 + i).toNatClampNeg ∧ u = tw cI cZ q A) := by
  refine mt_I_of (by decide) (Nat.le_of_ble_eq_true rfl) ?_
  intro p e s m below meth c AA X hr hlk
  refine jj_lve (lv' := [(0, .ref (q 6)), (1, .int (nI (k0 + 1))), (2, .int i)]) rfl ?_
  refine jj_aload_n X d_ld_slipAt_0 1 rfl 0 rfl ?_
  refine jj_get (v := .ref (q 29)) X d_ld_slipAt_1 4 rfl i_ld 1 f_ld_15 6 rfl rfl (by decide) rfl rfl ?_
  refine jj_aload_n X d_ld_slipAt_4 5 rfl 0 rfl ?_
  refine jj_get (v := .ref (q 28)) X d_ld_slipAt_5 8 rfl i_ld 0 f_ld_9 6 rfl rfl (by decide) rfl rfl ?_
  refine jj_iload_n X d_ld_slipAt_8 9 rfl 1 rfl ?_
  refine jj_iconst (v := 1) X d_ld_slipAt_9 10 rfl (by decide) ?_
  refine jj_isub X d_ld_slipAt_10 11 rfl ?_
  refine jj_topv (y := nI k0) (nI_pred _) ?_
  refine jj_iald (v := A 21 k0) X d_ld_slipAt_11 12 rfl 28 0 rfl rfl (vp_in_nI (by omega) (by omega)) (ar_cl (by omega)) ?_
  refine jj_iload_n X d_ld_slipAt_12 13 rfl 2 rfl ?_
  refine jj_iadd X d_ld_slipAt_13 14 rfl ?_
  refine jj_iald (v := A 22 ((A 21 k0) + i).toNatClampNeg) X d_ld_slipAt_14 15 rfl 29 0 rfl rfl (hi) (rfl) ?_
  exact jj_iret X hr hlk d_ld_slipAt_15 (⟨rfl, rfl⟩)
set_option maxRecDepth 100000 in
set_option maxHeartbeats 4000000 in
theorem c_tr_dueDay (l : Launch) (D : va_G) (cI cZ : ClassId) (q : Nat → Nat) (A : Rows) (x : Int32) (hrg : rgC A) (hx : vp_in x 151) : mt_I l D cls_ [(cI, .int), (cZ, .boolean)] nst_ y_tr_dueDay (Cond.code y_tr_dueDay b_tr_dueDay 2 (some .int) :: gt_) (rmd 0) [.ref (q 0), .int x] (tw cI cZ q A) (fun r u => r = duC A x ∧ u = tw cI cZ q A) := by
  refine mt_I_of (by decide) (Nat.le_of_ble_eq_true rfl) ?_
  intro p e s m below meth c AA X hr hlk
  refine jj_lve (lv' := [(0, .ref (q 0)), (1, .int x)]) rfl ?_
  refine jj_aload_n X d_tr_dueDay_0 1 rfl 0 rfl ?_
  refine jj_get (v := .ref (q 5)) X d_tr_dueDay_1 4 rfl i_tr 3 f_tr_33 0 rfl rfl (by decide) rfl rfl ?_
  refine jj_get (v := .ref (q 26)) X d_tr_dueDay_4 7 rfl i_sl 4 f_tr_171 5 rfl rfl (by decide) rfl rfl ?_
  refine jj_iload_n X d_tr_dueDay_7 8 rfl 1 rfl ?_
  refine jj_iald (v := A 19 x.toNatClampNeg) X d_tr_dueDay_8 9 rfl 26 0 rfl rfl (by assumption) (rfl) ?_
  refine jj_aload_n X d_tr_dueDay_9 10 rfl 0 rfl ?_
  refine jj_get (v := .ref (q 2)) X d_tr_dueDay_10 13 rfl i_tr 1 f_tr_19 0 rfl rfl (by decide) rfl rfl ?_
  refine jj_get (v := .ref (q 12)) X d_tr_dueDay_13 16 rfl i_ro 3 f_tr_212 2 rfl rfl (by decide) rfl rfl ?_
  refine jj_aload_n X d_tr_dueDay_16 17 rfl 0 rfl ?_
  refine jj_get (v := .ref (q 5)) X d_tr_dueDay_17 20 rfl i_tr 3 f_tr_33 0 rfl rfl (by decide) rfl rfl ?_
  refine jj_get (v := .ref (q 23)) X d_tr_dueDay_20 23 rfl i_sl 1 f_tr_174 5 rfl rfl (by decide) rfl rfl ?_
  refine jj_iload_n X d_tr_dueDay_23 24 rfl 1 rfl ?_
  refine jj_iald (v := A 16 x.toNatClampNeg) X d_tr_dueDay_24 25 rfl 23 0 rfl rfl (by assumption) (rfl) ?_
  refine jj_iald (v := A 5 (A 16 x.toNatClampNeg).toNatClampNeg) X d_tr_dueDay_25 26 rfl 12 0 rfl rfl (hrg.2.1 _) (rfl) ?_
  refine jj_iadd X d_tr_dueDay_26 27 rfl ?_
  exact jj_iret X hr hlk d_tr_dueDay_27 (⟨rfl, rfl⟩)
set_option maxRecDepth 100000 in
set_option maxHeartbeats 4000000 in
theorem c_tr_isBefore (l : Launch) (D : va_G) (cI cZ : ClassId) (q : Nat → Nat) (A : Rows) (x y : Int32) (hrg : rgC A) (hx : vp_in x 151) (hy : vp_in y 151) : mt_I l D cls_ [(cI, .int), (cZ, .boolean)] nst_ y_tr_isBefore (Cond.code y_tr_isBefore b_tr_isBefore 4 (some .boolean) :: gt_) (rmd 0) [.ref (q 0), .int x, .int y] (tw cI cZ q A) (fun r u => r = bfI A x y ∧ u = tw cI cZ q A) := by
  refine mt_I_of (by decide) (Nat.le_of_ble_eq_true rfl) ?_
  intro p e s m below meth c AA X hr hlk
  refine jj_lve (lv' := [(0, .ref (q 0)), (1, .int x), (2, .int y)]) rfl ?_
  refine jj_aload_n X d_tr_isBefore_0 1 rfl 0 rfl ?_
  refine jj_get (v := .ref (q 4)) X d_tr_isBefore_1 4 rfl i_tr 2 f_tr_26 0 rfl rfl (by decide) rfl rfl ?_
  refine jj_get (v := .ref (q 20)) X d_tr_isBefore_4 7 rfl i_cp 3 f_tr_94 4 rfl rfl (by decide) rfl rfl ?_
  refine jj_aload_n X d_tr_isBefore_7 8 rfl 0 rfl ?_
  refine jj_get (v := .ref (q 5)) X d_tr_isBefore_8 11 rfl i_tr 3 f_tr_33 0 rfl rfl (by decide) rfl rfl ?_
  refine jj_get (v := .ref (q 22)) X d_tr_isBefore_11 14 rfl i_sl 0 f_tr_124 5 rfl rfl (by decide) rfl rfl ?_
  refine jj_iload_n X d_tr_isBefore_14 15 rfl 1 rfl ?_
  refine jj_iald (v := A 15 x.toNatClampNeg) X d_tr_isBefore_15 16 rfl 22 0 rfl rfl (by assumption) (rfl) ?_
  refine jj_zald (v := A 13 (A 15 x.toNatClampNeg).toNatClampNeg) X d_tr_isBefore_16 17 rfl 20 1 rfl rfl (hrg.1 _) (rfl) ?_
  refine jj_istore_n (lv' := [(0, .ref (q 0)), (1, .int x), (2, .int y), (3, .int (A 13 (A 15 x.toNatClampNeg).toNatClampNeg))]) X d_tr_isBefore_17 18 rfl (by decide) rfl rfl ?_
  refine jj_iload_n X d_tr_isBefore_18 19 rfl 3 rfl ?_
  refine jj_aload_n X d_tr_isBefore_19 20 rfl 0 rfl ?_
  refine jj_get (v := .ref (q 4)) X d_tr_isBefore_20 23 rfl i_tr 2 f_tr_26 0 rfl rfl (by decide) rfl rfl ?_
  refine jj_get (v := .ref (q 20)) X d_tr_isBefore_23 26 rfl i_cp 3 f_tr_94 4 rfl rfl (by decide) rfl rfl ?_
  refine jj_aload_n X d_tr_isBefore_26 27 rfl 0 rfl ?_
  refine jj_get (v := .ref (q 5)) X d_tr_isBefore_27 30 rfl i_tr 3 f_tr_33 0 rfl rfl (by decide) rfl rfl ?_
  refine jj_get (v := .ref (q 22)) X d_tr_isBefore_30 33 rfl i_sl 0 f_tr_124 5 rfl rfl (by decide) rfl rfl ?_
  refine jj_iload_n X d_tr_isBefore_33 34 rfl 2 rfl ?_
  refine jj_iald (v := A 15 y.toNatClampNeg) X d_tr_isBefore_34 35 rfl 22 0 rfl rfl (by assumption) (rfl) ?_
  refine jj_zald (v := A 13 (A 15 y.toNatClampNeg).toNatClampNeg) X d_tr_isBefore_35 36 rfl 20 1 rfl rfl (hrg.1 _) (rfl) ?_
  refine jj_icmp_eq X d_tr_isBefore_36 41 39 (by decide) rfl (fun c36 => ?_) (fun c36 => ?_)
  · refine jj_aload_n X d_tr_isBefore_41 42 rfl 0 rfl ?_
    refine jj_get (v := .ref (q 5)) X d_tr_isBefore_42 45 rfl i_tr 3 f_tr_33 0 rfl rfl (by decide) rfl rfl ?_
    refine jj_get (v := .ref (q 26)) X d_tr_isBefore_45 48 rfl i_sl 4 f_tr_171 5 rfl rfl (by decide) rfl rfl ?_
    refine jj_iload_n X d_tr_isBefore_48 49 rfl 1 rfl ?_
    refine jj_iald (v := A 19 x.toNatClampNeg) X d_tr_isBefore_49 50 rfl 26 0 rfl rfl (by assumption) (rfl) ?_
    refine jj_aload_n X d_tr_isBefore_50 51 rfl 0 rfl ?_
    refine jj_get (v := .ref (q 5)) X d_tr_isBefore_51 54 rfl i_tr 3 f_tr_33 0 rfl rfl (by decide) rfl rfl ?_
    refine jj_get (v := .ref (q 26)) X d_tr_isBefore_54 57 rfl i_sl 4 f_tr_171 5 rfl rfl (by decide) rfl rfl ?_
    refine jj_iload_n X d_tr_isBefore_57 58 rfl 2 rfl ?_
    refine jj_iald (v := A 19 y.toNatClampNeg) X d_tr_isBefore_58 59 rfl 26 0 rfl rfl (by assumption) (rfl) ?_
    refine jj_icmp_eq X d_tr_isBefore_59 89 62 (by decide) rfl (fun c59 => ?_) (fun c59 => ?_)
    · refine jj_iload_n X d_tr_isBefore_89 90 rfl 1 rfl ?_
      refine jj_iload_n X d_tr_isBefore_90 91 rfl 2 rfl ?_
      refine jj_icmp_ge X d_tr_isBefore_91 98 94 (by decide) rfl (fun c91 => ?_) (fun c91 => ?_)
      · have c91 := Int32.not_lt.mpr c91
        refine jj_iconst (v := 0) X d_tr_isBefore_98 99 rfl (by decide) ?_
        exact jj_zret X hr hlk d_tr_isBefore_99 (rfl) (⟨by simp [bfI, b2, *], rfl⟩)
      · have c91 := Int32.not_le.mp c91
        refine jj_iconst (v := 1) X d_tr_isBefore_94 95 rfl (by decide) ?_
        refine jj_goto X d_tr_isBefore_95 99 (by decide) ?_
        exact jj_zret X hr hlk d_tr_isBefore_99 (rfl) (⟨by simp [bfI, b2, *], rfl⟩)
    · refine jj_aload_n X d_tr_isBefore_62 63 rfl 0 rfl ?_
      refine jj_get (v := .ref (q 5)) X d_tr_isBefore_63 66 rfl i_tr 3 f_tr_33 0 rfl rfl (by decide) rfl rfl ?_
      refine jj_get (v := .ref (q 26)) X d_tr_isBefore_66 69 rfl i_sl 4 f_tr_171 5 rfl rfl (by decide) rfl rfl ?_
      refine jj_iload_n X d_tr_isBefore_69 70 rfl 1 rfl ?_
      refine jj_iald (v := A 19 x.toNatClampNeg) X d_tr_isBefore_70 71 rfl 26 0 rfl rfl (by assumption) (rfl) ?_
      refine jj_aload_n X d_tr_isBefore_71 72 rfl 0 rfl ?_
      refine jj_get (v := .ref (q 5)) X d_tr_isBefore_72 75 rfl i_tr 3 f_tr_33 0 rfl rfl (by decide) rfl rfl ?_
      refine jj_get (v := .ref (q 26)) X d_tr_isBefore_75 78 rfl i_sl 4 f_tr_171 5 rfl rfl (by decide) rfl rfl ?_
      refine jj_iload_n X d_tr_isBefore_78 79 rfl 2 rfl ?_
      refine jj_iald (v := A 19 y.toNatClampNeg) X d_tr_isBefore_79 80 rfl 26 0 rfl rfl (by assumption) (rfl) ?_
      refine jj_icmp_ge X d_tr_isBefore_80 87 83 (by decide) rfl (fun c80 => ?_) (fun c80 => ?_)
      · have c80 := Int32.not_lt.mpr c80
        refine jj_iconst (v := 0) X d_tr_isBefore_87 88 rfl (by decide) ?_
        exact jj_zret X hr hlk d_tr_isBefore_88 (rfl) (⟨by simp [bfI, b2, *], rfl⟩)
      · have c80 := Int32.not_le.mp c80
        refine jj_iconst (v := 1) X d_tr_isBefore_83 84 rfl (by decide) ?_
        refine jj_goto X d_tr_isBefore_84 88 (by decide) ?_
        exact jj_zret X hr hlk d_tr_isBefore_88 (rfl) (⟨by simp [bfI, b2, *], rfl⟩)
  · refine jj_iload_n X d_tr_isBefore_39 40 rfl 3 rfl ?_
    exact jj_zret X hr hlk d_tr_isBefore_40 (isB_nar (hrg.2.2.2.2.2.2.1 _)) (⟨by simp [bfI, b2, *], rfl⟩)
set_option maxRecDepth 100000 in
set_option maxHeartbeats 4000000 in
theorem c_tr_open (l : Launch) (D : va_G) (cI cZ : ClassId) (q : Nat → Nat) (A : Rows) (nP : Nat) (x : Int32) (on : Bool) (hnP : A 0 0 = nI nP) (hlP : nP ≤ 12) (hrg : rgC A) : mt_I l D cls_ [(cI, .int), (cZ, .boolean)] nst_ y_tr_open (Cond.code y_tr_open b_tr_open 4 (some .boolean) :: gt_) (rmd 1) [.ref (q 0), .int x, .int (b2 on)] (tw cI cZ q A) (fun r u => r = (if hN (nI nP) x = true then A 1 x.toNatClampNeg else 0) ∧ u = tw cI cZ q (if hN (nI nP) x = true then (ua A 1 (upd (A 1) x.toNatClampNeg (b2 on))) else A)) := by
  refine mt_I_of (by decide) (Nat.le_of_ble_eq_true rfl) ?_
  intro p e s m below meth c AA X hr hlk
  refine jj_lve (lv' := [(0, .ref (q 0)), (1, .int x), (2, .int (b2 on))]) rfl ?_
  refine jj_aload_n X d_tr_open_0 1 rfl 0 rfl ?_
  refine jj_get (v := .ref (q 1)) X d_tr_open_1 4 rfl i_tr 0 f_tr_10 0 rfl rfl (by decide) rfl rfl ?_
  refine jj_iload_n X d_tr_open_4 5 rfl 1 rfl ?_
  refine jj_callV0 (st := []) X d_tr_open_5 8 rfl (c_pl_has l D cI cZ q A x) g_tr_63 ⟨rfl, w_pl_has⟩ ⟨(Nat.le_of_ble_eq_true rfl), (Nat.le_of_ble_eq_true rfl)⟩ rfl 1 rfl rfl rfl (Nat.le_of_ble_eq_true rfl) ⟨rfl, rfl⟩ ⟨Nat.zero_le _, Nat.zero_le _⟩ (fun r u hu => ?_)
  obtain ⟨rfl, rfl⟩ := hu
  rw [hnP]
  refine jj_if_ne X d_tr_open_8 13 11 (by decide) rfl (fun c8 => ?_) (fun c8 => ?_)
  · have c8 := b2_t c8
    have hx : vp_in x 12 := hN_in c8 (by rw [nI_toInt (by omega)]; omega)
    refine jj_aload_n X d_tr_open_13 14 rfl 0 rfl ?_
    refine jj_get (v := .ref (q 1)) X d_tr_open_14 17 rfl i_tr 0 f_tr_10 0 rfl rfl (by decide) rfl rfl ?_
    refine jj_get (v := .ref (q 8)) X d_tr_open_17 20 rfl i_pl 0 f_tr_67 1 rfl rfl (by decide) rfl rfl ?_
    refine jj_iload_n X d_tr_open_20 21 rfl 1 rfl ?_
    refine jj_zald (v := A 1 x.toNatClampNeg) X d_tr_open_21 22 rfl 8 1 rfl rfl (by assumption) (rfl) ?_
    refine jj_istore_n (lv' := [(0, .ref (q 0)), (1, .int x), (2, .int (b2 on)), (3, .int (A 1 x.toNatClampNeg))]) X d_tr_open_22 23 rfl (by decide) rfl rfl ?_
    refine jj_aload_n X d_tr_open_23 24 rfl 0 rfl ?_
    refine jj_get (v := .ref (q 1)) X d_tr_open_24 27 rfl i_tr 0 f_tr_10 0 rfl rfl (by decide) rfl rfl ?_
    refine jj_get (v := .ref (q 8)) X d_tr_open_27 30 rfl i_pl 0 f_tr_67 1 rfl rfl (by decide) rfl rfl ?_
    refine jj_iload_n X d_tr_open_30 31 rfl 1 rfl ?_
    refine jj_iload_n X d_tr_open_31 32 rfl 2 rfl ?_
    refine jj_zast (ws' := tw cI cZ q ((ua A 1 (upd (A 1) x.toNatClampNeg (b2 on))))) X d_tr_open_32 33 rfl 8 1 rfl rfl (by assumption) (b2_vp _) rfl ?_
    refine jj_iload_n X d_tr_open_33 34 rfl 3 rfl ?_
    exact jj_zret X hr hlk d_tr_open_34 (isB_nar (hrg.2.2.2.2.2.1 _)) (⟨by simp [*], by simp [*]⟩)
  · have c8 := b2_f c8
    refine jj_iconst (v := 0) X d_tr_open_11 12 rfl (by decide) ?_
    exact jj_zret X hr hlk d_tr_open_12 (rfl) (⟨by simp [*], by simp [*]⟩)
set_option maxRecDepth 100000 in
set_option maxHeartbeats 4000000 in
theorem c_tr_route (l : Launch) (D : va_G) (cI cZ : ClassId) (q : Nat → Nat) (A : Rows) (nP : Nat) (nR : Nat) (a1 a2 a3 a4 a5 : Int32) (hnP : A 0 0 = nI nP) (hlP : nP ≤ 12) (hnR : A 0 1 = nI nR) (hlR : nR ≤ 40) : mt_I l D cls_ [(cI, .int), (cZ, .boolean)] nst_ y_tr_route (Cond.code y_tr_route b_tr_route 6 (some .int) :: gt_) (rmd 1) [.ref (q 0), .int a1, .int a2, .int a3, .int a4, .int a5] (tw cI cZ q A) (fun r u => r = (if (hN (nI nP) a1 && hN (nI nP) a2 && !decide (a1 = a2) && !decide (a3 < 1) && !decide (127 < a3) && !decide (a4 < 0) && decide (a4 ≤ 30) && !decide (a5 < 1) && decide (a5 ≤ 99) && !decide (nR = 40)) = true then nI nR else -1) ∧ u = tw cI cZ q (if (hN (nI nP) a1 && hN (nI nP) a2 && !decide (a1 = a2) && !decide (a3 < 1) && !decide (127 < a3) && !decide (a4 < 0) && decide (a4 ≤ 30) && !decide (a5 < 1) && decide (a5 ≤ 99) && !decide (nR = 40)) = true then (ua (ua (ua (ua (ua (ua (ua A 0 (uz (A 0) 1 (nI (nR + 1)))) 2 (upd (A 2) nR a1)) 3 (upd (A 3) nR a2)) 4 (upd (A 4) nR a3)) 5 (upd (A 5) nR a4)) 6 (upd (A 6) nR a5)) 7 (upd (A 7) nR (-1))) else A)) := by
  refine mt_I_of (by decide) (Nat.le_of_ble_eq_true rfl) ?_
  intro p e s m below meth c AA X hr hlk
  refine jj_lve (lv' := [(0, .ref (q 0)), (1, .int a1), (2, .int a2), (3, .int a3), (4, .int a4), (5, .int a5)]) rfl ?_
  refine jj_aload_n X d_tr_route_0 1 rfl 0 rfl ?_
  refine jj_get (v := .ref (q 1)) X d_tr_route_1 4 rfl i_tr 0 f_tr_10 0 rfl rfl (by decide) rfl rfl ?_
  refine jj_iload_n X d_tr_route_4 5 rfl 1 rfl ?_
  refine jj_callV0 (st := []) X d_tr_route_5 8 rfl (c_pl_has l D cI cZ q A a1) g_tr_63 ⟨rfl, w_pl_has⟩ ⟨(Nat.le_of_ble_eq_true rfl), (Nat.le_of_ble_eq_true rfl)⟩ rfl 1 rfl rfl rfl (Nat.le_of_ble_eq_true rfl) ⟨rfl, rfl⟩ ⟨Nat.zero_le _, Nat.zero_le _⟩ (fun r u hu => ?_)
  obtain ⟨rfl, rfl⟩ := hu
  rw [hnP]
  refine jj_if_eq X d_tr_route_8 27 11 (by decide) rfl (fun c8 => ?_) (fun c8 => ?_)
  · have c8 := b2_f c8
    refine jj_iconst (v := -1) X d_tr_route_27 28 rfl (by decide) ?_
    exact jj_iret X hr hlk d_tr_route_28 (⟨by simp [*], by simp [*]⟩)
  · have c8 := b2_t c8
    refine jj_aload_n X d_tr_route_11 12 rfl 0 rfl ?_
    refine jj_get (v := .ref (q 1)) X d_tr_route_12 15 rfl i_tr 0 f_tr_10 0 rfl rfl (by decide) rfl rfl ?_
    refine jj_iload_n X d_tr_route_15 16 rfl 2 rfl ?_
    refine jj_callV0 (st := []) X d_tr_route_16 19 rfl (c_pl_has l D cI cZ q A a2) g_tr_63 ⟨rfl, w_pl_has⟩ ⟨(Nat.le_of_ble_eq_true rfl), (Nat.le_of_ble_eq_true rfl)⟩ rfl 1 rfl rfl rfl (Nat.le_of_ble_eq_true rfl) ⟨rfl, rfl⟩ ⟨Nat.zero_le _, Nat.zero_le _⟩ (fun r u hu => ?_)
    obtain ⟨rfl, rfl⟩ := hu
    rw [hnP]
    refine jj_if_eq X d_tr_route_19 27 22 (by decide) rfl (fun c19 => ?_) (fun c19 => ?_)
    · have c19 := b2_f c19
      refine jj_iconst (v := -1) X d_tr_route_27 28 rfl (by decide) ?_
      exact jj_iret X hr hlk d_tr_route_28 (⟨by simp [*], by simp [*]⟩)
    · have c19 := b2_t c19
      refine jj_iload_n X d_tr_route_22 23 rfl 1 rfl ?_
      refine jj_iload_n X d_tr_route_23 24 rfl 2 rfl ?_
      refine jj_icmp_ne X d_tr_route_24 29 27 (by decide) rfl (fun c24 => ?_) (fun c24 => ?_)
      · refine jj_iload_n X d_tr_route_29 30 rfl 3 rfl ?_
        refine jj_iconst (v := 1) X d_tr_route_30 31 rfl (by decide) ?_
        refine jj_icmp_lt X d_tr_route_31 52 34 (by decide) rfl (fun c31 => ?_) (fun c31 => ?_)
        · refine jj_iconst (v := -1) X d_tr_route_52 53 rfl (by decide) ?_
          exact jj_iret X hr hlk d_tr_route_53 (⟨by simp [*], by simp [*]⟩)
        · refine jj_iload_n X d_tr_route_34 35 rfl 3 rfl ?_
          refine jj_bipush (v := 127) X d_tr_route_35 37 rfl (by decide) ?_
          refine jj_icmp_gt X d_tr_route_37 52 40 (by decide) rfl (fun c37 => ?_) (fun c37 => ?_)
          · refine jj_iconst (v := -1) X d_tr_route_52 53 rfl (by decide) ?_
            exact jj_iret X hr hlk d_tr_route_53 (⟨by simp [*], by simp [*]⟩)
          · refine jj_iload X d_tr_route_40 42 rfl 4 rfl ?_
            refine jj_if_lt X d_tr_route_42 52 45 (by decide) rfl (fun c42 => ?_) (fun c42 => ?_)
            · refine jj_iconst (v := -1) X d_tr_route_52 53 rfl (by decide) ?_
              exact jj_iret X hr hlk d_tr_route_53 (⟨by simp [*], by simp [*]⟩)
            · refine jj_iload X d_tr_route_45 47 rfl 4 rfl ?_
              refine jj_bipush (v := 30) X d_tr_route_47 49 rfl (by decide) ?_
              refine jj_icmp_le X d_tr_route_49 54 52 (by decide) rfl (fun c49 => ?_) (fun c49 => ?_)
              · refine jj_iload X d_tr_route_54 56 rfl 5 rfl ?_
                refine jj_iconst (v := 1) X d_tr_route_56 57 rfl (by decide) ?_
                refine jj_icmp_lt X d_tr_route_57 67 60 (by decide) rfl (fun c57 => ?_) (fun c57 => ?_)
                · refine jj_iconst (v := -1) X d_tr_route_67 68 rfl (by decide) ?_
                  exact jj_iret X hr hlk d_tr_route_68 (⟨by simp [*], by simp [*]⟩)
                · refine jj_iload X d_tr_route_60 62 rfl 5 rfl ?_
                  refine jj_bipush (v := 99) X d_tr_route_62 64 rfl (by decide) ?_
                  refine jj_icmp_le X d_tr_route_64 69 67 (by decide) rfl (fun c64 => ?_) (fun c64 => ?_)
                  · refine jj_aload_n X d_tr_route_69 70 rfl 0 rfl ?_
                    refine jj_get (v := .ref (q 2)) X d_tr_route_70 73 rfl i_tr 1 f_tr_19 0 rfl rfl (by decide) rfl rfl ?_
                    refine jj_iload_n X d_tr_route_73 74 rfl 1 rfl ?_
                    refine jj_iload_n X d_tr_route_74 75 rfl 2 rfl ?_
                    refine jj_iload_n X d_tr_route_75 76 rfl 3 rfl ?_
                    refine jj_iload X d_tr_route_76 78 rfl 4 rfl ?_
                    refine jj_iload X d_tr_route_78 80 rfl 5 rfl ?_
                    refine jj_callV0 (st := []) X d_tr_route_80 83 rfl (c_ro_add l D cI cZ q A nR a1 a2 a3 a4 a5 hnR hlR) g_tr_71 ⟨rfl, w_ro_add⟩ ⟨(Nat.le_of_ble_eq_true rfl), (Nat.le_of_ble_eq_true rfl)⟩ rfl 2 rfl rfl rfl (Nat.le_of_ble_eq_true rfl) ⟨rfl, rfl⟩ ⟨Nat.zero_le _, Nat.zero_le _⟩ (fun r u hu => ?_)
                    obtain ⟨rfl, rfl⟩ := hu
                    exact jj_iret X hr hlk d_tr_route_83 (⟨by by_cases e9 : nR = 40 <;> simp [*], by by_cases e9 : nR = 40 <;> simp [*]⟩)
                  · refine jj_iconst (v := -1) X d_tr_route_67 68 rfl (by decide) ?_
                    exact jj_iret X hr hlk d_tr_route_68 (⟨by simp [*], by simp [*]⟩)
              · refine jj_iconst (v := -1) X d_tr_route_52 53 rfl (by decide) ?_
                exact jj_iret X hr hlk d_tr_route_53 (⟨by simp [*], by simp [*]⟩)
      · refine jj_iconst (v := -1) X d_tr_route_27 28 rfl (by decide) ?_
        exact jj_iret X hr hlk d_tr_route_28 (⟨by simp [*], by simp [*]⟩)
set_option maxRecDepth 100000 in
set_option maxHeartbeats 4000000 in
theorem c_tr_priority (l : Launch) (D : va_G) (cI cZ : ClassId) (q : Nat → Nat) (A : Rows) (nC : Nat) (x : Int32) (on : Bool) (hnC : A 0 3 = nI nC) (hlC : nC ≤ 60) (hrg : rgC A) : mt_I l D cls_ [(cI, .int), (cZ, .boolean)] nst_ y_tr_priority (Cond.code y_tr_priority b_tr_priority 4 (some .boolean) :: gt_) (rmd 1) [.ref (q 0), .int x, .int (b2 on)] (tw cI cZ q A) (fun r u => r = (if h1 (nI nC) x = true then A 13 x.toNatClampNeg else 0) ∧ u = tw cI cZ q (if h1 (nI nC) x = true then (ua A 13 (upd (A 13) x.toNatClampNeg (b2 on))) else A)) := by
  refine mt_I_of (by decide) (Nat.le_of_ble_eq_true rfl) ?_
  intro p e s m below meth c AA X hr hlk
  refine jj_lve (lv' := [(0, .ref (q 0)), (1, .int x), (2, .int (b2 on))]) rfl ?_
  refine jj_aload_n X d_tr_priority_0 1 rfl 0 rfl ?_
  refine jj_get (v := .ref (q 4)) X d_tr_priority_1 4 rfl i_tr 2 f_tr_26 0 rfl rfl (by decide) rfl rfl ?_
  refine jj_iload_n X d_tr_priority_4 5 rfl 1 rfl ?_
  refine jj_callV0 (st := []) X d_tr_priority_5 8 rfl (c_cp_has l D cI cZ q A x) g_tr_93 ⟨rfl, w_cp_has⟩ ⟨(Nat.le_of_ble_eq_true rfl), (Nat.le_of_ble_eq_true rfl)⟩ rfl 4 rfl rfl rfl (Nat.le_of_ble_eq_true rfl) ⟨rfl, rfl⟩ ⟨Nat.zero_le _, Nat.zero_le _⟩ (fun r u hu => ?_)
  obtain ⟨rfl, rfl⟩ := hu
  rw [hnC]
  refine jj_if_ne X d_tr_priority_8 13 11 (by decide) rfl (fun c8 => ?_) (fun c8 => ?_)
  · have c8 := b2_t c8
    have hx : vp_in x 61 := h1_in c8 (by rw [nI_toInt (by omega)]; omega)
    refine jj_aload_n X d_tr_priority_13 14 rfl 0 rfl ?_
    refine jj_get (v := .ref (q 4)) X d_tr_priority_14 17 rfl i_tr 2 f_tr_26 0 rfl rfl (by decide) rfl rfl ?_
    refine jj_get (v := .ref (q 20)) X d_tr_priority_17 20 rfl i_cp 3 f_tr_94 4 rfl rfl (by decide) rfl rfl ?_
    refine jj_iload_n X d_tr_priority_20 21 rfl 1 rfl ?_
    refine jj_zald (v := A 13 x.toNatClampNeg) X d_tr_priority_21 22 rfl 20 1 rfl rfl (by assumption) (rfl) ?_
    refine jj_istore_n (lv' := [(0, .ref (q 0)), (1, .int x), (2, .int (b2 on)), (3, .int (A 13 x.toNatClampNeg))]) X d_tr_priority_22 23 rfl (by decide) rfl rfl ?_
    refine jj_aload_n X d_tr_priority_23 24 rfl 0 rfl ?_
    refine jj_get (v := .ref (q 4)) X d_tr_priority_24 27 rfl i_tr 2 f_tr_26 0 rfl rfl (by decide) rfl rfl ?_
    refine jj_get (v := .ref (q 20)) X d_tr_priority_27 30 rfl i_cp 3 f_tr_94 4 rfl rfl (by decide) rfl rfl ?_
    refine jj_iload_n X d_tr_priority_30 31 rfl 1 rfl ?_
    refine jj_iload_n X d_tr_priority_31 32 rfl 2 rfl ?_
    refine jj_zast (ws' := tw cI cZ q ((ua A 13 (upd (A 13) x.toNatClampNeg (b2 on))))) X d_tr_priority_32 33 rfl 20 1 rfl rfl (by assumption) (b2_vp _) rfl ?_
    refine jj_iload_n X d_tr_priority_33 34 rfl 3 rfl ?_
    exact jj_zret X hr hlk d_tr_priority_34 (isB_nar (hrg.2.2.2.2.2.2.1 _)) (⟨by simp [*], by simp [*]⟩)
  · have c8 := b2_f c8
    refine jj_iconst (v := 0) X d_tr_priority_11 12 rfl (by decide) ?_
    exact jj_zret X hr hlk d_tr_priority_12 (rfl) (⟨by simp [*], by simp [*]⟩)
set_option maxRecDepth 100000 in
set_option maxHeartbeats 4000000 in
theorem c_tr_floats (l : Launch) (D : va_G) (cI cZ : ClassId) (q : Nat → Nat) (A : Rows) (nC : Nat) (x : Int32) (on : Bool) (hnC : A 0 3 = nI nC) (hlC : nC ≤ 60) (hrg : rgC A) : mt_I l D cls_ [(cI, .int), (cZ, .boolean)] nst_ y_tr_floats (Cond.code y_tr_floats b_tr_floats 4 (some .boolean) :: gt_) (rmd 1) [.ref (q 0), .int x, .int (b2 on)] (tw cI cZ q A) (fun r u => r = (if h1 (nI nC) x = true then A 14 x.toNatClampNeg else 0) ∧ u = tw cI cZ q (if h1 (nI nC) x = true then (ua A 14 (upd (A 14) x.toNatClampNeg (b2 on))) else A)) := by
  refine mt_I_of (by decide) (Nat.le_of_ble_eq_true rfl) ?_
  intro p e s m below meth c AA X hr hlk
  refine jj_lve (lv' := [(0, .ref (q 0)), (1, .int x), (2, .int (b2 on))]) rfl ?_
  refine jj_aload_n X d_tr_floats_0 1 rfl 0 rfl ?_
  refine jj_get (v := .ref (q 4)) X d_tr_floats_1 4 rfl i_tr 2 f_tr_26 0 rfl rfl (by decide) rfl rfl ?_
  refine jj_iload_n X d_tr_floats_4 5 rfl 1 rfl ?_
  refine jj_callV0 (st := []) X d_tr_floats_5 8 rfl (c_cp_has l D cI cZ q A x) g_tr_93 ⟨rfl, w_cp_has⟩ ⟨(Nat.le_of_ble_eq_true rfl), (Nat.le_of_ble_eq_true rfl)⟩ rfl 4 rfl rfl rfl (Nat.le_of_ble_eq_true rfl) ⟨rfl, rfl⟩ ⟨Nat.zero_le _, Nat.zero_le _⟩ (fun r u hu => ?_)
  obtain ⟨rfl, rfl⟩ := hu
  rw [hnC]
  refine jj_if_ne X d_tr_floats_8 13 11 (by decide) rfl (fun c8 => ?_) (fun c8 => ?_)
  · have c8 := b2_t c8
    have hx : vp_in x 61 := h1_in c8 (by rw [nI_toInt (by omega)]; omega)
    refine jj_aload_n X d_tr_floats_13 14 rfl 0 rfl ?_
    refine jj_get (v := .ref (q 4)) X d_tr_floats_14 17 rfl i_tr 2 f_tr_26 0 rfl rfl (by decide) rfl rfl ?_
    refine jj_get (v := .ref (q 21)) X d_tr_floats_17 20 rfl i_cp 4 f_tr_97 4 rfl rfl (by decide) rfl rfl ?_
    refine jj_iload_n X d_tr_floats_20 21 rfl 1 rfl ?_
    refine jj_zald (v := A 14 x.toNatClampNeg) X d_tr_floats_21 22 rfl 21 1 rfl rfl (by assumption) (rfl) ?_
    refine jj_istore_n (lv' := [(0, .ref (q 0)), (1, .int x), (2, .int (b2 on)), (3, .int (A 14 x.toNatClampNeg))]) X d_tr_floats_22 23 rfl (by decide) rfl rfl ?_
    refine jj_aload_n X d_tr_floats_23 24 rfl 0 rfl ?_
    refine jj_get (v := .ref (q 4)) X d_tr_floats_24 27 rfl i_tr 2 f_tr_26 0 rfl rfl (by decide) rfl rfl ?_
    refine jj_get (v := .ref (q 21)) X d_tr_floats_27 30 rfl i_cp 4 f_tr_97 4 rfl rfl (by decide) rfl rfl ?_
    refine jj_iload_n X d_tr_floats_30 31 rfl 1 rfl ?_
    refine jj_iload_n X d_tr_floats_31 32 rfl 2 rfl ?_
    refine jj_zast (ws' := tw cI cZ q ((ua A 14 (upd (A 14) x.toNatClampNeg (b2 on))))) X d_tr_floats_32 33 rfl 21 1 rfl rfl (by assumption) (b2_vp _) rfl ?_
    refine jj_iload_n X d_tr_floats_33 34 rfl 3 rfl ?_
    exact jj_zret X hr hlk d_tr_floats_34 (isB_nar (hrg.2.2.2.2.2.2.2 _)) (⟨by simp [*], by simp [*]⟩)
  · have c8 := b2_f c8
    refine jj_iconst (v := 0) X d_tr_floats_11 12 rfl (by decide) ?_
    exact jj_zret X hr hlk d_tr_floats_12 (rfl) (⟨by simp [*], by simp [*]⟩)
set_option maxRecDepth 100000 in
set_option maxHeartbeats 4000000 in
theorem c_tr_copy (l : Launch) (D : va_G) (cI cZ : ClassId) (q : Nat → Nat) (A : Rows) (nP : Nat) (nC : Nat) (x : Int32) (hnP : A 0 0 = nI nP) (hlP : nP ≤ 12) (hnC : A 0 3 = nI nC) (hlC : nC ≤ 60) : mt_I l D cls_ [(cI, .int), (cZ, .boolean)] nst_ y_tr_copy (Cond.code y_tr_copy b_tr_copy 2 (some .int) :: gt_) (rmd 1) [.ref (q 0), .int x] (tw cI cZ q A) (fun r u => r = (if hN (nI nP) x = true then (if nC = 60 then 0 else nI (nC + 1)) else 0) ∧ u = tw cI cZ q (if hN (nI nP) x = true then (if nC = 60 then A else (ua (ua (ua A 0 (uz (A 0) 3 (nI (nC + 1)))) 10 (upd (A 10) (nC + 1) x)) 11 (upd (A 11) (nC + 1) x))) else A)) := by
  refine mt_I_of (by decide) (Nat.le_of_ble_eq_true rfl) ?_
  intro p e s m below meth c AA X hr hlk
  refine jj_lve (lv' := [(0, .ref (q 0)), (1, .int x)]) rfl ?_
  refine jj_aload_n X d_tr_copy_0 1 rfl 0 rfl ?_
  refine jj_get (v := .ref (q 1)) X d_tr_copy_1 4 rfl i_tr 0 f_tr_10 0 rfl rfl (by decide) rfl rfl ?_
  refine jj_iload_n X d_tr_copy_4 5 rfl 1 rfl ?_
  refine jj_callV0 (st := []) X d_tr_copy_5 8 rfl (c_pl_has l D cI cZ q A x) g_tr_63 ⟨rfl, w_pl_has⟩ ⟨(Nat.le_of_ble_eq_true rfl), (Nat.le_of_ble_eq_true rfl)⟩ rfl 1 rfl rfl rfl (Nat.le_of_ble_eq_true rfl) ⟨rfl, rfl⟩ ⟨Nat.zero_le _, Nat.zero_le _⟩ (fun r u hu => ?_)
  obtain ⟨rfl, rfl⟩ := hu
  rw [hnP]
  refine jj_if_ne X d_tr_copy_8 13 11 (by decide) rfl (fun c8 => ?_) (fun c8 => ?_)
  · have c8 := b2_t c8
    refine jj_aload_n X d_tr_copy_13 14 rfl 0 rfl ?_
    refine jj_get (v := .ref (q 4)) X d_tr_copy_14 17 rfl i_tr 2 f_tr_26 0 rfl rfl (by decide) rfl rfl ?_
    refine jj_iload_n X d_tr_copy_17 18 rfl 1 rfl ?_
    refine jj_callV0 (st := []) X d_tr_copy_18 21 rfl (c_cp_add l D cI cZ q A nC x hnC hlC) g_tr_90 ⟨rfl, w_cp_add⟩ ⟨(Nat.le_of_ble_eq_true rfl), (Nat.le_of_ble_eq_true rfl)⟩ rfl 4 rfl rfl rfl (Nat.le_of_ble_eq_true rfl) ⟨rfl, rfl⟩ ⟨Nat.zero_le _, Nat.zero_le _⟩ (fun r u hu => ?_)
    obtain ⟨rfl, rfl⟩ := hu
    exact jj_iret X hr hlk d_tr_copy_21 (⟨by simp [*], by simp [*]⟩)
  · have c8 := b2_f c8
    refine jj_iconst (v := 0) X d_tr_copy_11 12 rfl (by decide) ?_
    exact jj_iret X hr hlk d_tr_copy_12 (⟨by simp [*], by simp [*]⟩)
set_option maxRecDepth 100000 in
set_option maxHeartbeats 4000000 in
theorem c_tr_skip (l : Launch) (D : va_G) (cI cZ : ClassId) (q : Nat → Nat) (A : Rows) (nR : Nat) (nX : Nat) (x d : Int32) (out : Bool) (hnR : A 0 1 = nI nR) (hlR : nR ≤ 40) (hnX : A 0 2 = nI nX) (hlX : nX ≤ 60) : mt_I l D cls_ [(cI, .int), (cZ, .boolean)] nst_ y_tr_skip (Cond.code y_tr_skip b_tr_skip 4 (some .boolean) :: gt_) (rmd 2) [.ref (q 0), .int x, .int d, .int (b2 out)] (tw cI cZ q A) (fun r u => r = (if (hN (nI nR) x && dC d) = true then (if out = true then b2 (!(decide (nX = 60) || !decide (x_find (A 8) (A 9) x d nX 0 = -1))) else b2 (!decide (x_find (A 8) (A 9) x d nX 0 = -1))) else 0) ∧ u = tw cI cZ q (if (hN (nI nR) x && dC d) = true then (if out = true then (if (decide (nX = 60) || !decide (x_find (A 8) (A 9) x d nX 0 = -1)) = true then A else (ua (ua (ua A 0 (uz (A 0) 2 (nI (nX + 1)))) 8 (upd (A 8) nX x)) 9 (upd (A 9) nX d))) else (if x_find (A 8) (A 9) x d nX 0 = -1 then A else (ua (ua (ua A 0 (uz (A 0) 2 (nI (nX - 1)))) 8 (upd (A 8) (x_find (A 8) (A 9) x d nX 0).toNatClampNeg (A 8 (nX - 1)))) 9 (upd (A 9) (x_find (A 8) (A 9) x d nX 0).toNatClampNeg (A 9 (nX - 1)))))) else A)) := by
  refine mt_I_of (by decide) (Nat.le_of_ble_eq_true rfl) ?_
  intro p e s m below meth c AA X hr hlk
  refine jj_lve (lv' := [(0, .ref (q 0)), (1, .int x), (2, .int d), (3, .int (b2 out))]) rfl ?_
  refine jj_aload_n X d_tr_skip_0 1 rfl 0 rfl ?_
  refine jj_get (v := .ref (q 2)) X d_tr_skip_1 4 rfl i_tr 1 f_tr_19 0 rfl rfl (by decide) rfl rfl ?_
  refine jj_iload_n X d_tr_skip_4 5 rfl 1 rfl ?_
  refine jj_callV0 (st := []) X d_tr_skip_5 8 rfl (c_ro_has l D cI cZ q A x) g_tr_74 ⟨rfl, w_ro_has⟩ ⟨(Nat.le_of_ble_eq_true rfl), (Nat.le_of_ble_eq_true rfl)⟩ rfl 2 rfl rfl rfl (Nat.le_of_ble_eq_true rfl) ⟨rfl, rfl⟩ ⟨Nat.zero_le _, Nat.zero_le _⟩ (fun r u hu => ?_)
  obtain ⟨rfl, rfl⟩ := hu
  rw [hnR]
  refine jj_if_eq X d_tr_skip_8 18 11 (by decide) rfl (fun c8 => ?_) (fun c8 => ?_)
  · have c8 := b2_f c8
    refine jj_iconst (v := 0) X d_tr_skip_18 19 rfl (by decide) ?_
    exact jj_zret X hr hlk d_tr_skip_19 (rfl) (⟨by simp [*], by simp [*]⟩)
  · have c8 := b2_t c8
    refine jj_iload_n X d_tr_skip_11 12 rfl 2 rfl ?_
    refine jj_callS0 (st := []) X d_tr_skip_12 15 rfl (c_tr_isDay l D cI cZ q A d) g_tr_75 ⟨rfl, w_tr_isDay⟩ ⟨(Nat.le_of_ble_eq_true rfl), (Nat.le_of_ble_eq_true rfl)⟩ rfl rfl (Nat.le_of_ble_eq_true rfl) ⟨rfl, rfl⟩ ⟨Nat.zero_le _, Nat.zero_le _⟩ (fun r u hu => ?_)
    obtain ⟨rfl, rfl⟩ := hu
    refine jj_if_ne X d_tr_skip_15 20 18 (by decide) rfl (fun c15 => ?_) (fun c15 => ?_)
    · have c15 := b2_t c15
      refine jj_iload_n X d_tr_skip_20 21 rfl 3 rfl ?_
      refine jj_if_eq X d_tr_skip_21 39 24 (by decide) rfl (fun c21 => ?_) (fun c21 => ?_)
      · have c21 := b2_f c21
        refine jj_aload_n X d_tr_skip_39 40 rfl 0 rfl ?_
        refine jj_get (v := .ref (q 2)) X d_tr_skip_40 43 rfl i_tr 1 f_tr_19 0 rfl rfl (by decide) rfl rfl ?_
        refine jj_get (v := .ref (q 3)) X d_tr_skip_43 46 rfl i_ro 6 f_tr_78 2 rfl rfl (by decide) rfl rfl ?_
        refine jj_iload_n X d_tr_skip_46 47 rfl 1 rfl ?_
        refine jj_iload_n X d_tr_skip_47 48 rfl 2 rfl ?_
        refine jj_callV0 (st := []) X d_tr_skip_48 51 rfl (c_lo_remove l D cI cZ q A nX x d hnX hlX) g_tr_87 ⟨rfl, w_lo_remove⟩ ⟨(Nat.le_of_ble_eq_true rfl), (Nat.le_of_ble_eq_true rfl)⟩ rfl 3 rfl rfl rfl (Nat.le_of_ble_eq_true rfl) ⟨rfl, rfl⟩ ⟨Nat.zero_le _, Nat.zero_le _⟩ (fun r u hu => ?_)
        obtain ⟨rfl, rfl⟩ := hu
        exact jj_zret X hr hlk d_tr_skip_51 (b2_nar _) (⟨by simp [*], by simp [*]⟩)
      · have c21 := b2_t c21
        refine jj_aload_n X d_tr_skip_24 25 rfl 0 rfl ?_
        refine jj_get (v := .ref (q 2)) X d_tr_skip_25 28 rfl i_tr 1 f_tr_19 0 rfl rfl (by decide) rfl rfl ?_
        refine jj_get (v := .ref (q 3)) X d_tr_skip_28 31 rfl i_ro 6 f_tr_78 2 rfl rfl (by decide) rfl rfl ?_
        refine jj_iload_n X d_tr_skip_31 32 rfl 1 rfl ?_
        refine jj_iload_n X d_tr_skip_32 33 rfl 2 rfl ?_
        refine jj_callV0 (st := []) X d_tr_skip_33 36 rfl (c_lo_add l D cI cZ q A nX x d hnX hlX) g_tr_82 ⟨rfl, w_lo_add⟩ ⟨(Nat.le_of_ble_eq_true rfl), (Nat.le_of_ble_eq_true rfl)⟩ rfl 3 rfl rfl rfl (Nat.le_of_ble_eq_true rfl) ⟨rfl, rfl⟩ ⟨Nat.zero_le _, Nat.zero_le _⟩ (fun r u hu => ?_)
        obtain ⟨rfl, rfl⟩ := hu
        refine jj_goto X d_tr_skip_36 51 (by decide) ?_
        exact jj_zret X hr hlk d_tr_skip_51 (b2_nar _) (⟨by simp [*], by simp [*]⟩)
    · have c15 := b2_f c15
      refine jj_iconst (v := 0) X d_tr_skip_18 19 rfl (by decide) ?_
      exact jj_zret X hr hlk d_tr_skip_19 (rfl) (⟨by simp [*], by simp [*]⟩)
end
section
set_option maxRecDepth 100000 in
set_option maxHeartbeats 4000000 in
theorem c_tr_place (l : Launch) (D : va_G) (cI cZ : ClassId) (q : Nat → Nat) (A : Rows) (nP : Nat) (hnP : A 0 0 = nI nP) (hlP : nP ≤ 12) : mt_I l D cls_ [(cI, .int), (cZ, .boolean)] nst_ y_tr_place (Cond.code y_tr_place b_tr_place 1 (some .int) :: gt_) (rmd 1) [.ref (q 0)] (tw cI cZ q A) (fun r u => r = (if nP = 12 then -1 else nI nP) ∧ u = tw cI cZ q (if nP = 12 then A else (ua (ua A 0 (uz (A 0) 0 (nI (nP + 1)))) 1 (upd (A 1) nP 1)))) := by
  refine mt_I_of (by decide) (Nat.le_of_ble_eq_true rfl) ?_
  intro p e s m below meth c AA X hr hlk
  refine jj_lve (lv' := [(0, .ref (q 0))]) rfl ?_
  refine jj_aload_n X d_tr_place_0 1 rfl 0 rfl ?_
  refine jj_get (v := .ref (q 1)) X d_tr_place_1 4 rfl i_tr 0 f_tr_10 0 rfl rfl (by decide) rfl rfl ?_
  refine jj_callV0 (st := []) X d_tr_place_4 7 rfl (c_pl_add l D cI cZ q A nP hnP hlP) g_tr_59 ⟨rfl, w_pl_add⟩ ⟨(Nat.le_of_ble_eq_true rfl), (Nat.le_of_ble_eq_true rfl)⟩ rfl 1 rfl rfl rfl (Nat.le_of_ble_eq_true rfl) ⟨rfl, rfl⟩ ⟨Nat.zero_le _, Nat.zero_le _⟩ (fun r u hu => ?_)
  exact jj_iret X hr hlk d_tr_place_7 (hu)
set_option maxRecDepth 100000 in
set_option maxHeartbeats 4000000 in
theorem c_tr_send (l : Launch) (D : va_G) (cI cZ : ClassId) (q : Nat → Nat) (A : Rows) (nP : Nat) (nR : Nat) (nX : Nat) (nC : Nat) (nS : Nat) (x y d : Int32) (hnP : A 0 0 = nI nP) (hlP : nP ≤ 12) (hnR : A 0 1 = nI nR) (hlR : nR ≤ 40) (hnX : A 0 2 = nI nX) (hlX : nX ≤ 60) (hnC : A 0 3 = nI nC) (hlC : nC ≤ 60) (hnS : A 0 4 = nI nS) (hlS : nS ≤ 150) (hrg : rgC A) : mt_I l D cls_ [(cI, .int), (cZ, .boolean)] nst_ y_tr_send (Cond.code y_tr_send b_tr_send 7 (some .int) :: gt_) (rmd 4) [.ref (q 0), .int x, .int y, .int d] (tw cI cZ q A) (fun r u => r = (s_send A nP nR nX nC nS x y d).1 ∧ u = tw cI cZ q (s_send A nP nR nX nC nS x y d).2) := by
  refine mt_I_of (by decide) (Nat.le_of_ble_eq_true rfl) ?_
  intro p e s m below meth c AA X hr hlk
  refine jj_lve (lv' := [(0, .ref (q 0)), (1, .int x), (2, .int y), (3, .int d)]) rfl ?_
  refine jj_aload_n X d_tr_send_0 1 rfl 0 rfl ?_
  refine jj_get (v := .ref (q 4)) X d_tr_send_1 4 rfl i_tr 2 f_tr_26 0 rfl rfl (by decide) rfl rfl ?_
  refine jj_iload_n X d_tr_send_4 5 rfl 1 rfl ?_
  refine jj_callV0 (st := []) X d_tr_send_5 8 rfl (c_cp_has l D cI cZ q A x) g_tr_93 ⟨rfl, w_cp_has⟩ ⟨(Nat.le_of_ble_eq_true rfl), (Nat.le_of_ble_eq_true rfl)⟩ rfl 4 rfl rfl rfl (Nat.le_of_ble_eq_true rfl) ⟨rfl, rfl⟩ ⟨Nat.zero_le _, Nat.zero_le _⟩ (fun r u hu => ?_)
  obtain ⟨rfl, rfl⟩ := hu
  rw [hnC]
  refine jj_if_eq X d_tr_send_8 29 11 (by decide) rfl (fun c8 => ?_) (fun c8 => ?_)
  · have c8 := b2_f c8
    refine jj_iconst (v := 0) X d_tr_send_29 30 rfl (by decide) ?_
    exact jj_iret X hr hlk d_tr_send_30 (⟨by simp [s_send, okS, *], by simp [s_send, okS, *]⟩)
  · have c8 := b2_t c8
    refine jj_aload_n X d_tr_send_11 12 rfl 0 rfl ?_
    refine jj_get (v := .ref (q 1)) X d_tr_send_12 15 rfl i_tr 0 f_tr_10 0 rfl rfl (by decide) rfl rfl ?_
    refine jj_iload_n X d_tr_send_15 16 rfl 2 rfl ?_
    refine jj_callV0 (st := []) X d_tr_send_16 19 rfl (c_pl_has l D cI cZ q A y) g_tr_63 ⟨rfl, w_pl_has⟩ ⟨(Nat.le_of_ble_eq_true rfl), (Nat.le_of_ble_eq_true rfl)⟩ rfl 1 rfl rfl rfl (Nat.le_of_ble_eq_true rfl) ⟨rfl, rfl⟩ ⟨Nat.zero_le _, Nat.zero_le _⟩ (fun r u hu => ?_)
    obtain ⟨rfl, rfl⟩ := hu
    rw [hnP]
    refine jj_if_eq X d_tr_send_19 29 22 (by decide) rfl (fun c19 => ?_) (fun c19 => ?_)
    · have c19 := b2_f c19
      refine jj_iconst (v := 0) X d_tr_send_29 30 rfl (by decide) ?_
      exact jj_iret X hr hlk d_tr_send_30 (⟨by simp [s_send, okS, *], by simp [s_send, okS, *]⟩)
    · have c19 := b2_t c19
      refine jj_iload_n X d_tr_send_22 23 rfl 3 rfl ?_
      refine jj_callS0 (st := []) X d_tr_send_23 26 rfl (c_tr_isDay l D cI cZ q A d) g_tr_75 ⟨rfl, w_tr_isDay⟩ ⟨(Nat.le_of_ble_eq_true rfl), (Nat.le_of_ble_eq_true rfl)⟩ rfl rfl (Nat.le_of_ble_eq_true rfl) ⟨rfl, rfl⟩ ⟨Nat.zero_le _, Nat.zero_le _⟩ (fun r u hu => ?_)
      obtain ⟨rfl, rfl⟩ := hu
      refine jj_if_ne X d_tr_send_26 31 29 (by decide) rfl (fun c26 => ?_) (fun c26 => ?_)
      · have c26 := b2_t c26
        obtain ⟨t, ht, rfl⟩ := dC_of c26
        have hx : vp_in x 61 := h1_in c8 (by rw [nI_toInt (by omega)]; omega)
        have hy : vp_in y 12 := hN_in c19 (by rw [nI_toInt (by omega)]; omega)
        refine jj_aload_n X d_tr_send_31 32 rfl 0 rfl ?_
        refine jj_get (v := .ref (q 4)) X d_tr_send_32 35 rfl i_tr 2 f_tr_26 0 rfl rfl (by decide) rfl rfl ?_
        refine jj_get (v := .ref (q 19)) X d_tr_send_35 38 rfl i_cp 2 f_tr_100 4 rfl rfl (by decide) rfl rfl ?_
        refine jj_iload_n X d_tr_send_38 39 rfl 1 rfl ?_
        refine jj_iald (v := A 12 x.toNatClampNeg) X d_tr_send_39 40 rfl 19 0 rfl rfl (hx) (rfl) ?_
        refine jj_if_ne X d_tr_send_40 69 43 (by decide) rfl (fun c40 => ?_) (fun c40 => ?_)
        · refine jj_iconst (v := 0) X d_tr_send_69 70 rfl (by decide) ?_
          exact jj_iret X hr hlk d_tr_send_70 (⟨by simp [s_send, okS, *], by simp [s_send, okS, *]⟩)
        · refine jj_aload_n X d_tr_send_43 44 rfl 0 rfl ?_
          refine jj_get (v := .ref (q 4)) X d_tr_send_44 47 rfl i_tr 2 f_tr_26 0 rfl rfl (by decide) rfl rfl ?_
          refine jj_get (v := .ref (q 18)) X d_tr_send_47 50 rfl i_cp 1 f_tr_103 4 rfl rfl (by decide) rfl rfl ?_
          refine jj_iload_n X d_tr_send_50 51 rfl 1 rfl ?_
          refine jj_iald (v := A 11 x.toNatClampNeg) X d_tr_send_51 52 rfl 18 0 rfl rfl (hx) (rfl) ?_
          refine jj_iload_n X d_tr_send_52 53 rfl 2 rfl ?_
          refine jj_icmp_eq X d_tr_send_53 69 56 (by decide) rfl (fun c53 => ?_) (fun c53 => ?_)
          · refine jj_iconst (v := 0) X d_tr_send_69 70 rfl (by decide) ?_
            exact jj_iret X hr hlk d_tr_send_70 (⟨by simp [s_send, okS, *], by simp [s_send, okS, *]⟩)
          · refine jj_aload_n X d_tr_send_56 57 rfl 0 rfl ?_
            refine jj_get (v := .ref (q 5)) X d_tr_send_57 60 rfl i_tr 3 f_tr_33 0 rfl rfl (by decide) rfl rfl ?_
            refine jj_get (v := .int (nI nS)) X d_tr_send_60 63 rfl i_sl 6 f_tr_106 5 rfl rfl (by decide) rfl (by rw [← hnS]; rfl) ?_
            refine jj_sipush (v := 150) X d_tr_send_63 66 rfl (by decide) ?_
            refine jj_icmp_ne X d_tr_send_66 71 69 (by decide) rfl (fun c66 => ?_) (fun c66 => ?_)
            · have hS : nS ≠ 150 := nI_neD c66
              refine jj_aload_n X d_tr_send_71 72 rfl 0 rfl ?_
              refine jj_get (v := .ref (q 1)) X d_tr_send_72 75 rfl i_tr 0 f_tr_10 0 rfl rfl (by decide) rfl rfl ?_
              refine jj_get (v := .ref (q 8)) X d_tr_send_75 78 rfl i_pl 0 f_tr_67 1 rfl rfl (by decide) rfl rfl ?_
              refine jj_iload_n X d_tr_send_78 79 rfl 2 rfl ?_
              refine jj_zald (v := A 1 y.toNatClampNeg) X d_tr_send_79 80 rfl 8 1 rfl rfl (hy) (rfl) ?_
              refine jj_if_ne X d_tr_send_80 86 83 (by decide) rfl (fun c80 => ?_) (fun c80 => ?_)
              · refine jj_aload_n X d_tr_send_86 87 rfl 0 rfl ?_
                refine jj_get (v := .ref (q 4)) X d_tr_send_87 90 rfl i_tr 2 f_tr_26 0 rfl rfl (by decide) rfl rfl ?_
                refine jj_get (v := .ref (q 20)) X d_tr_send_90 93 rfl i_cp 3 f_tr_94 4 rfl rfl (by decide) rfl rfl ?_
                refine jj_iload_n X d_tr_send_93 94 rfl 1 rfl ?_
                refine jj_zald (v := A 13 x.toNatClampNeg) X d_tr_send_94 95 rfl 20 1 rfl rfl (hx) (rfl) ?_
                refine jj_if_eq X d_tr_send_95 102 98 (by decide) rfl (fun c95 => ?_) (fun c95 => ?_)
                · have hes : eS A x (nI t) = t + 1 := by simp only [eS, c95, if_true, nI_clamp (show t < 2 ^ 31 by omega)]
                  refine jj_iload_n X d_tr_send_102 103 rfl 3 rfl ?_
                  refine jj_iconst (v := 1) X d_tr_send_103 104 rfl (by decide) ?_
                  refine jj_iadd X d_tr_send_104 105 rfl ?_
                  refine jj_topv (y := nI (t + 1)) (nI_1 _) ?_
                  refine jj_istore (lv' := [(0, .ref (q 0)), (1, .int x), (2, .int y), (3, .int (nI t)), (4, .int (nI (t + 1)))]) X d_tr_send_105 107 rfl (by decide) rfl rfl ?_
                  refine jj_aload_n X d_tr_send_107 108 rfl 0 rfl ?_
                  refine jj_get (v := .ref (q 2)) X d_tr_send_108 111 rfl i_tr 1 f_tr_19 0 rfl rfl (by decide) rfl rfl ?_
                  refine jj_aload_n X d_tr_send_111 112 rfl 0 rfl ?_
                  refine jj_get (v := .ref (q 4)) X d_tr_send_112 115 rfl i_tr 2 f_tr_26 0 rfl rfl (by decide) rfl rfl ?_
                  refine jj_get (v := .ref (q 18)) X d_tr_send_115 118 rfl i_cp 1 f_tr_103 4 rfl rfl (by decide) rfl rfl ?_
                  refine jj_iload_n X d_tr_send_118 119 rfl 1 rfl ?_
                  refine jj_iald (v := A 11 x.toNatClampNeg) X d_tr_send_119 120 rfl 18 0 rfl rfl (hx) (rfl) ?_
                  refine jj_iload_n X d_tr_send_120 121 rfl 2 rfl ?_
                  refine jj_iload X d_tr_send_121 123 rfl 4 rfl ?_
                  refine jj_callV0 (st := []) X d_tr_send_123 126 rfl (c_ro_findQuickest l D cI cZ q A nX nR (A 11 x.toNatClampNeg) y (t + 1) hnX hlX hnR hlR (by omega)) g_tr_109 ⟨rfl, w_ro_findQuickest⟩ ⟨(Nat.le_of_ble_eq_true rfl), (Nat.le_of_ble_eq_true rfl)⟩ rfl 2 rfl rfl rfl (Nat.le_of_ble_eq_true rfl) ⟨rfl, rfl⟩ ⟨Nat.zero_le _, Nat.zero_le _⟩ (fun r u hu => ?_)
                  obtain ⟨rfl, rfl⟩ := hu
                  refine jj_istore (lv' := [(0, .ref (q 0)), (1, .int x), (2, .int y), (3, .int (nI t)), (4, .int (nI (t + 1))), (5, .int (x_qk A nX (A 11 x.toNatClampNeg) y (t + 1) nR 0 (-1) 0))]) X d_tr_send_126 128 rfl (by decide) rfl rfl ?_
                  have hbs := (show bS A nR nX x y (nI t) = _ by rw [bS, hes])
                  refine jj_iload X d_tr_send_128 130 rfl 5 rfl ?_
                  refine jj_iconst (v := -1) X d_tr_send_130 131 rfl (by decide) ?_
                  refine jj_icmp_ne X d_tr_send_131 137 134 (by decide) rfl (fun c131 => ?_) (fun c131 => ?_)
                  · obtain ⟨i, hi, ei⟩ := (x_qk_r nR 0 (-1) 0 (Or.inl rfl)).resolve_left c131
                    have hbin : vp_in (nI i) 40 := vp_in_nI (by omega) (by omega)
                    rw [← ei] at hbin
                    refine jj_aload_n X d_tr_send_137 138 rfl 0 rfl ?_
                    refine jj_get (v := .ref (q 5)) X d_tr_send_138 141 rfl i_tr 3 f_tr_33 0 rfl rfl (by decide) rfl rfl ?_
                    refine jj_iload_n X d_tr_send_141 142 rfl 1 rfl ?_
                    refine jj_iload X d_tr_send_142 144 rfl 5 rfl ?_
                    refine jj_iload_n X d_tr_send_144 145 rfl 3 rfl ?_
                    refine jj_aload_n X d_tr_send_145 146 rfl 0 rfl ?_
                    refine jj_get (v := .ref (q 2)) X d_tr_send_146 149 rfl i_tr 1 f_tr_19 0 rfl rfl (by decide) rfl rfl ?_
                    refine jj_iload X d_tr_send_149 151 rfl 5 rfl ?_
                    refine jj_iload X d_tr_send_151 153 rfl 4 rfl ?_
                    refine jj_callV0 (st := [.int (nI t), .int (x_qk A nX (A 11 x.toNatClampNeg) y (t + 1) nR 0 (-1) 0), .int x, .ref (q 5)]) X d_tr_send_153 156 rfl (c_ro_firstRun l D cI cZ q A nX (x_qk A nX (A 11 x.toNatClampNeg) y (t + 1) nR 0 (-1) 0) (t + 1) hnX hlX hbin (by omega)) g_tr_113 ⟨rfl, w_ro_firstRun⟩ ⟨(Nat.le_of_ble_eq_true rfl), (Nat.le_of_ble_eq_true rfl)⟩ rfl 2 rfl rfl rfl (Nat.le_of_ble_eq_true rfl) ⟨rfl, rfl⟩ ⟨Nat.zero_le _, Nat.zero_le _⟩ (fun r u hu => ?_)
                    obtain ⟨rfl, rfl⟩ := hu
                    refine jj_callV0 (st := []) X d_tr_send_156 159 rfl (c_sl_add l D cI cZ q A nS x (x_qk A nX (A 11 x.toNatClampNeg) y (t + 1) nR 0 (-1) 0) (nI t) (x_fst A nX (x_qk A nX (A 11 x.toNatClampNeg) y (t + 1) nR 0 (-1) 0) (100000 - (t + 1)) (t + 1)) hnS (by omega)) g_tr_117 ⟨rfl, w_sl_add⟩ ⟨(Nat.le_of_ble_eq_true rfl), (Nat.le_of_ble_eq_true rfl)⟩ rfl 5 rfl rfl rfl (Nat.le_of_ble_eq_true rfl) ⟨rfl, rfl⟩ ⟨Nat.zero_le _, Nat.zero_le _⟩ (fun r u hu => ?_)
                    obtain ⟨rfl, rfl⟩ := hu
                    refine jj_istore (lv' := [(0, .ref (q 0)), (1, .int x), (2, .int y), (3, .int (nI t)), (4, .int (nI (t + 1))), (5, .int (x_qk A nX (A 11 x.toNatClampNeg) y (t + 1) nR 0 (-1) 0)), (6, .int (nI (nS + 1)))]) X d_tr_send_159 161 rfl (by decide) rfl rfl ?_
                    refine jj_aload_n X d_tr_send_161 162 rfl 0 rfl ?_
                    refine jj_get (v := .ref (q 4)) X d_tr_send_162 165 rfl i_tr 2 f_tr_26 0 rfl rfl (by decide) rfl rfl ?_
                    refine jj_get (v := .ref (q 19)) X d_tr_send_165 168 rfl i_cp 2 f_tr_100 4 rfl rfl (by decide) rfl rfl ?_
                    refine jj_iload_n X d_tr_send_168 169 rfl 1 rfl ?_
                    refine jj_iload X d_tr_send_169 171 rfl 6 rfl ?_
                    refine jj_iast (ws' := tw cI cZ q ((ua (ua (ua (ua (ua (ua (ua (ua A 0 (uz (A 0) 4 (nI (nS + 1)))) 12 (upd (A 12) x.toNatClampNeg (nI (nS + 1)))) 15 (upd (A 15) (nS + 1) x)) 16 (upd (A 16) (nS + 1) (x_qk A nX (A 11 x.toNatClampNeg) y (t + 1) nR 0 (-1) 0))) 17 (upd (A 17) (nS + 1) 0)) 18 (upd (A 18) (nS + 1) (nI t))) 19 (upd (A 19) (nS + 1) (x_fst A nX (x_qk A nX (A 11 x.toNatClampNeg) y (t + 1) nR 0 (-1) 0) (100000 - (t + 1)) (t + 1)))) 20 (upd (A 20) (nS + 1) (-1))))) X d_tr_send_171 172 rfl 19 0 rfl rfl (hx) rfl ?_
                    refine jj_iload X d_tr_send_172 174 rfl 6 rfl ?_
                    exact jj_iret X hr hlk d_tr_send_174 (⟨by simp only [s_send, okS]; simp [hbs, c8, c19, c26, c40, c53, hS, c80, c131], by simp only [s_send, okS]; simp [hes, hbs, c8, c19, c26, c40, c53, hS, c80, c131]⟩)
                  · refine jj_bipush (v := -3) X d_tr_send_134 136 rfl (by decide) ?_
                    exact jj_iret X hr hlk d_tr_send_136 (⟨by simp [s_send, okS, hbs, *], by simp [s_send, okS, hbs, *]⟩)
                · have hes : eS A x (nI t) = t := by simp only [eS, c95, if_false, nI_clamp (show t < 2 ^ 31 by omega)]
                  refine jj_iload_n X d_tr_send_98 99 rfl 3 rfl ?_
                  refine jj_goto X d_tr_send_99 105 (by decide) ?_
                  refine jj_istore (lv' := [(0, .ref (q 0)), (1, .int x), (2, .int y), (3, .int (nI t)), (4, .int (nI t))]) X d_tr_send_105 107 rfl (by decide) rfl rfl ?_
                  refine jj_aload_n X d_tr_send_107 108 rfl 0 rfl ?_
                  refine jj_get (v := .ref (q 2)) X d_tr_send_108 111 rfl i_tr 1 f_tr_19 0 rfl rfl (by decide) rfl rfl ?_
                  refine jj_aload_n X d_tr_send_111 112 rfl 0 rfl ?_
                  refine jj_get (v := .ref (q 4)) X d_tr_send_112 115 rfl i_tr 2 f_tr_26 0 rfl rfl (by decide) rfl rfl ?_
                  refine jj_get (v := .ref (q 18)) X d_tr_send_115 118 rfl i_cp 1 f_tr_103 4 rfl rfl (by decide) rfl rfl ?_
                  refine jj_iload_n X d_tr_send_118 119 rfl 1 rfl ?_
                  refine jj_iald (v := A 11 x.toNatClampNeg) X d_tr_send_119 120 rfl 18 0 rfl rfl (hx) (rfl) ?_
                  refine jj_iload_n X d_tr_send_120 121 rfl 2 rfl ?_
                  refine jj_iload X d_tr_send_121 123 rfl 4 rfl ?_
                  refine jj_callV0 (st := []) X d_tr_send_123 126 rfl (c_ro_findQuickest l D cI cZ q A nX nR (A 11 x.toNatClampNeg) y t hnX hlX hnR hlR (by omega)) g_tr_109 ⟨rfl, w_ro_findQuickest⟩ ⟨(Nat.le_of_ble_eq_true rfl), (Nat.le_of_ble_eq_true rfl)⟩ rfl 2 rfl rfl rfl (Nat.le_of_ble_eq_true rfl) ⟨rfl, rfl⟩ ⟨Nat.zero_le _, Nat.zero_le _⟩ (fun r u hu => ?_)
                  obtain ⟨rfl, rfl⟩ := hu
                  refine jj_istore (lv' := [(0, .ref (q 0)), (1, .int x), (2, .int y), (3, .int (nI t)), (4, .int (nI t)), (5, .int (x_qk A nX (A 11 x.toNatClampNeg) y t nR 0 (-1) 0))]) X d_tr_send_126 128 rfl (by decide) rfl rfl ?_
                  have hbs := (show bS A nR nX x y (nI t) = _ by rw [bS, hes])
                  refine jj_iload X d_tr_send_128 130 rfl 5 rfl ?_
                  refine jj_iconst (v := -1) X d_tr_send_130 131 rfl (by decide) ?_
                  refine jj_icmp_ne X d_tr_send_131 137 134 (by decide) rfl (fun c131 => ?_) (fun c131 => ?_)
                  · obtain ⟨i, hi, ei⟩ := (x_qk_r nR 0 (-1) 0 (Or.inl rfl)).resolve_left c131
                    have hbin : vp_in (nI i) 40 := vp_in_nI (by omega) (by omega)
                    rw [← ei] at hbin
                    refine jj_aload_n X d_tr_send_137 138 rfl 0 rfl ?_
                    refine jj_get (v := .ref (q 5)) X d_tr_send_138 141 rfl i_tr 3 f_tr_33 0 rfl rfl (by decide) rfl rfl ?_
                    refine jj_iload_n X d_tr_send_141 142 rfl 1 rfl ?_
                    refine jj_iload X d_tr_send_142 144 rfl 5 rfl ?_
                    refine jj_iload_n X d_tr_send_144 145 rfl 3 rfl ?_
                    refine jj_aload_n X d_tr_send_145 146 rfl 0 rfl ?_
                    refine jj_get (v := .ref (q 2)) X d_tr_send_146 149 rfl i_tr 1 f_tr_19 0 rfl rfl (by decide) rfl rfl ?_
                    refine jj_iload X d_tr_send_149 151 rfl 5 rfl ?_
                    refine jj_iload X d_tr_send_151 153 rfl 4 rfl ?_
                    refine jj_callV0 (st := [.int (nI t), .int (x_qk A nX (A 11 x.toNatClampNeg) y t nR 0 (-1) 0), .int x, .ref (q 5)]) X d_tr_send_153 156 rfl (c_ro_firstRun l D cI cZ q A nX (x_qk A nX (A 11 x.toNatClampNeg) y t nR 0 (-1) 0) t hnX hlX hbin (by omega)) g_tr_113 ⟨rfl, w_ro_firstRun⟩ ⟨(Nat.le_of_ble_eq_true rfl), (Nat.le_of_ble_eq_true rfl)⟩ rfl 2 rfl rfl rfl (Nat.le_of_ble_eq_true rfl) ⟨rfl, rfl⟩ ⟨Nat.zero_le _, Nat.zero_le _⟩ (fun r u hu => ?_)
                    obtain ⟨rfl, rfl⟩ := hu
                    refine jj_callV0 (st := []) X d_tr_send_156 159 rfl (c_sl_add l D cI cZ q A nS x (x_qk A nX (A 11 x.toNatClampNeg) y t nR 0 (-1) 0) (nI t) (x_fst A nX (x_qk A nX (A 11 x.toNatClampNeg) y t nR 0 (-1) 0) (100000 - t) t) hnS (by omega)) g_tr_117 ⟨rfl, w_sl_add⟩ ⟨(Nat.le_of_ble_eq_true rfl), (Nat.le_of_ble_eq_true rfl)⟩ rfl 5 rfl rfl rfl (Nat.le_of_ble_eq_true rfl) ⟨rfl, rfl⟩ ⟨Nat.zero_le _, Nat.zero_le _⟩ (fun r u hu => ?_)
                    obtain ⟨rfl, rfl⟩ := hu
                    refine jj_istore (lv' := [(0, .ref (q 0)), (1, .int x), (2, .int y), (3, .int (nI t)), (4, .int (nI t)), (5, .int (x_qk A nX (A 11 x.toNatClampNeg) y t nR 0 (-1) 0)), (6, .int (nI (nS + 1)))]) X d_tr_send_159 161 rfl (by decide) rfl rfl ?_
                    refine jj_aload_n X d_tr_send_161 162 rfl 0 rfl ?_
                    refine jj_get (v := .ref (q 4)) X d_tr_send_162 165 rfl i_tr 2 f_tr_26 0 rfl rfl (by decide) rfl rfl ?_
                    refine jj_get (v := .ref (q 19)) X d_tr_send_165 168 rfl i_cp 2 f_tr_100 4 rfl rfl (by decide) rfl rfl ?_
                    refine jj_iload_n X d_tr_send_168 169 rfl 1 rfl ?_
                    refine jj_iload X d_tr_send_169 171 rfl 6 rfl ?_
                    refine jj_iast (ws' := tw cI cZ q ((ua (ua (ua (ua (ua (ua (ua (ua A 0 (uz (A 0) 4 (nI (nS + 1)))) 12 (upd (A 12) x.toNatClampNeg (nI (nS + 1)))) 15 (upd (A 15) (nS + 1) x)) 16 (upd (A 16) (nS + 1) (x_qk A nX (A 11 x.toNatClampNeg) y t nR 0 (-1) 0))) 17 (upd (A 17) (nS + 1) 0)) 18 (upd (A 18) (nS + 1) (nI t))) 19 (upd (A 19) (nS + 1) (x_fst A nX (x_qk A nX (A 11 x.toNatClampNeg) y t nR 0 (-1) 0) (100000 - t) t))) 20 (upd (A 20) (nS + 1) (-1))))) X d_tr_send_171 172 rfl 19 0 rfl rfl (hx) rfl ?_
                    refine jj_iload X d_tr_send_172 174 rfl 6 rfl ?_
                    exact jj_iret X hr hlk d_tr_send_174 (⟨by simp only [s_send, okS]; simp [hbs, c8, c19, c26, c40, c53, hS, c80, c131], by simp only [s_send, okS]; simp [hes, hbs, c8, c19, c26, c40, c53, hS, c80, c131]⟩)
                  · refine jj_bipush (v := -3) X d_tr_send_134 136 rfl (by decide) ?_
                    exact jj_iret X hr hlk d_tr_send_136 (⟨by simp [s_send, okS, hbs, *], by simp [s_send, okS, hbs, *]⟩)
              · refine jj_bipush (v := -2) X d_tr_send_83 85 rfl (by decide) ?_
                exact jj_iret X hr hlk d_tr_send_85 (⟨by simp [s_send, okS, *], by simp [s_send, okS, *]⟩)
            · have hS : nS = 150 := nI_eqD c66 (by omega) (by omega)
              refine jj_iconst (v := 0) X d_tr_send_69 70 rfl (by decide) ?_
              exact jj_iret X hr hlk d_tr_send_70 (⟨by simp [s_send, okS, *], by simp [s_send, okS, *]⟩)
      · have c26 := b2_f c26
        refine jj_iconst (v := 0) X d_tr_send_29 30 rfl (by decide) ?_
        exact jj_iret X hr hlk d_tr_send_30 (⟨by simp [s_send, okS, *], by simp [s_send, okS, *]⟩)
set_option maxRecDepth 100000 in
set_option maxHeartbeats 4000000 in
theorem c_tr_back (l : Launch) (D : va_G) (cI cZ : ClassId) (q : Nat → Nat) (A : Rows) (nS : Nat) (x : Int32) (hnS : A 0 4 = nI nS) (hlS : nS ≤ 150) (hrg : rgC A) : mt_I l D cls_ [(cI, .int), (cZ, .boolean)] nst_ y_tr_back (Cond.code y_tr_back b_tr_back 2 (some .int) :: gt_) (rmd 1) [.ref (q 0), .int x] (tw cI cZ q A) (fun r u => r = (s_back A nS x).1 ∧ u = tw cI cZ q (s_back A nS x).2) := by
  refine mt_I_of (by decide) (Nat.le_of_ble_eq_true rfl) ?_
  intro p e s m below meth c AA X hr hlk
  refine jj_lve (lv' := [(0, .ref (q 0)), (1, .int x)]) rfl ?_
  refine jj_aload_n X d_tr_back_0 1 rfl 0 rfl ?_
  refine jj_get (v := .ref (q 5)) X d_tr_back_1 4 rfl i_tr 3 f_tr_33 0 rfl rfl (by decide) rfl rfl ?_
  refine jj_iload_n X d_tr_back_4 5 rfl 1 rfl ?_
  refine jj_callV0 (st := []) X d_tr_back_5 8 rfl (c_sl_has l D cI cZ q A x) g_tr_120 ⟨rfl, w_sl_has⟩ ⟨(Nat.le_of_ble_eq_true rfl), (Nat.le_of_ble_eq_true rfl)⟩ rfl 5 rfl rfl rfl (Nat.le_of_ble_eq_true rfl) ⟨rfl, rfl⟩ ⟨Nat.zero_le _, Nat.zero_le _⟩ (fun r u hu => ?_)
  obtain ⟨rfl, rfl⟩ := hu
  rw [hnS]
  refine jj_if_eq X d_tr_back_8 23 11 (by decide) rfl (fun c8 => ?_) (fun c8 => ?_)
  · have c8 := b2_f c8
    refine jj_iconst (v := 0) X d_tr_back_23 24 rfl (by decide) ?_
    exact jj_iret X hr hlk d_tr_back_24 (⟨by simp [s_back, *], by simp [s_back, *]⟩)
  · have c8 := b2_t c8
    have hx : vp_in x 151 := h1_in c8 (by rw [nI_toInt (by omega)]; omega)
    refine jj_aload_n X d_tr_back_11 12 rfl 0 rfl ?_
    refine jj_get (v := .ref (q 5)) X d_tr_back_12 15 rfl i_tr 3 f_tr_33 0 rfl rfl (by decide) rfl rfl ?_
    refine jj_get (v := .ref (q 24)) X d_tr_back_15 18 rfl i_sl 2 f_tr_121 5 rfl rfl (by decide) rfl rfl ?_
    refine jj_iload_n X d_tr_back_18 19 rfl 1 rfl ?_
    refine jj_iald (v := A 17 x.toNatClampNeg) X d_tr_back_19 20 rfl 24 0 rfl rfl (by assumption) (rfl) ?_
    refine jj_if_eq X d_tr_back_20 25 23 (by decide) rfl (fun c20 => ?_) (fun c20 => ?_)
    · refine jj_aload_n X d_tr_back_25 26 rfl 0 rfl ?_
      refine jj_get (v := .ref (q 5)) X d_tr_back_26 29 rfl i_tr 3 f_tr_33 0 rfl rfl (by decide) rfl rfl ?_
      refine jj_get (v := .ref (q 24)) X d_tr_back_29 32 rfl i_sl 2 f_tr_121 5 rfl rfl (by decide) rfl rfl ?_
      refine jj_iload_n X d_tr_back_32 33 rfl 1 rfl ?_
      refine jj_iconst (v := 5) X d_tr_back_33 34 rfl (by decide) ?_
      refine jj_iast (ws' := tw cI cZ q ((ua A 17 (upd (A 17) x.toNatClampNeg 5)))) X d_tr_back_34 35 rfl 24 0 rfl rfl (by assumption) rfl ?_
      refine jj_aload_n X d_tr_back_35 36 rfl 0 rfl ?_
      refine jj_get (v := .ref (q 4)) X d_tr_back_36 39 rfl i_tr 2 f_tr_26 0 rfl rfl (by decide) rfl rfl ?_
      refine jj_get (v := .ref (q 19)) X d_tr_back_39 42 rfl i_cp 2 f_tr_100 4 rfl rfl (by decide) rfl rfl ?_
      refine jj_aload_n X d_tr_back_42 43 rfl 0 rfl ?_
      refine jj_get (v := .ref (q 5)) X d_tr_back_43 46 rfl i_tr 3 f_tr_33 0 rfl rfl (by decide) rfl rfl ?_
      refine jj_get (v := .ref (q 22)) X d_tr_back_46 49 rfl i_sl 0 f_tr_124 5 rfl rfl (by decide) rfl rfl ?_
      refine jj_iload_n X d_tr_back_49 50 rfl 1 rfl ?_
      refine jj_iald (v := A 15 x.toNatClampNeg) X d_tr_back_50 51 rfl 22 0 rfl rfl (by assumption) (rfl) ?_
      refine jj_iconst (v := 0) X d_tr_back_51 52 rfl (by decide) ?_
      refine jj_iast (ws' := tw cI cZ q ((ua (ua A 12 (upd (A 12) ((A 15 x.toNatClampNeg).toNatClampNeg) 0)) 17 (upd (A 17) x.toNatClampNeg 5)))) X d_tr_back_52 53 rfl 19 0 rfl rfl (hrg.1 _) rfl ?_
      refine jj_iconst (v := 1) X d_tr_back_53 54 rfl (by decide) ?_
      exact jj_iret X hr hlk d_tr_back_54 (⟨by simp [s_back, *], by simp [s_back, *]⟩)
    · refine jj_iconst (v := 0) X d_tr_back_23 24 rfl (by decide) ?_
      exact jj_iret X hr hlk d_tr_back_24 (⟨by simp [s_back, *], by simp [s_back, *]⟩)
set_option maxRecDepth 100000 in
set_option maxHeartbeats 4000000 in
theorem c_tr_arrive (l : Launch) (D : va_G) (cI cZ : ClassId) (q : Nat → Nat) (A : Rows) (nP : Nat) (nS : Nat) (x y d : Int32) (hnP : A 0 0 = nI nP) (hlP : nP ≤ 12) (hnS : A 0 4 = nI nS) (hlS : nS ≤ 150) (hrg : rgC A) : mt_I l D cls_ [(cI, .int), (cZ, .boolean)] nst_ y_tr_arrive (Cond.code y_tr_arrive b_tr_arrive 6 (some .int) :: gt_) (rmd 1) [.ref (q 0), .int x, .int y, .int d] (tw cI cZ q A) (fun r u => r = (s_arr A nP nS x y d).1 ∧ u = tw cI cZ q (s_arr A nP nS x y d).2) := by
  refine mt_I_of (by decide) (Nat.le_of_ble_eq_true rfl) ?_
  intro p e s m below meth c AA X hr hlk
  refine jj_lve (lv' := [(0, .ref (q 0)), (1, .int x), (2, .int y), (3, .int d)]) rfl ?_
  refine jj_aload_n X d_tr_arrive_0 1 rfl 0 rfl ?_
  refine jj_get (v := .ref (q 5)) X d_tr_arrive_1 4 rfl i_tr 3 f_tr_33 0 rfl rfl (by decide) rfl rfl ?_
  refine jj_iload_n X d_tr_arrive_4 5 rfl 1 rfl ?_
  refine jj_callV0 (st := []) X d_tr_arrive_5 8 rfl (c_sl_has l D cI cZ q A x) g_tr_120 ⟨rfl, w_sl_has⟩ ⟨(Nat.le_of_ble_eq_true rfl), (Nat.le_of_ble_eq_true rfl)⟩ rfl 5 rfl rfl rfl (Nat.le_of_ble_eq_true rfl) ⟨rfl, rfl⟩ ⟨Nat.zero_le _, Nat.zero_le _⟩ (fun r u hu => ?_)
  obtain ⟨rfl, rfl⟩ := hu
  rw [hnS]
  refine jj_if_eq X d_tr_arrive_8 29 11 (by decide) rfl (fun c8 => ?_) (fun c8 => ?_)
  · have c8 := b2_f c8
    refine jj_iconst (v := 0) X d_tr_arrive_29 30 rfl (by decide) ?_
    exact jj_iret X hr hlk d_tr_arrive_30 (⟨by simp [s_arr, okA, *], by simp [s_arr, okA, *]⟩)
  · have c8 := b2_t c8
    refine jj_aload_n X d_tr_arrive_11 12 rfl 0 rfl ?_
    refine jj_get (v := .ref (q 1)) X d_tr_arrive_12 15 rfl i_tr 0 f_tr_10 0 rfl rfl (by decide) rfl rfl ?_
    refine jj_iload_n X d_tr_arrive_15 16 rfl 2 rfl ?_
    refine jj_callV0 (st := []) X d_tr_arrive_16 19 rfl (c_pl_has l D cI cZ q A y) g_tr_63 ⟨rfl, w_pl_has⟩ ⟨(Nat.le_of_ble_eq_true rfl), (Nat.le_of_ble_eq_true rfl)⟩ rfl 1 rfl rfl rfl (Nat.le_of_ble_eq_true rfl) ⟨rfl, rfl⟩ ⟨Nat.zero_le _, Nat.zero_le _⟩ (fun r u hu => ?_)
    obtain ⟨rfl, rfl⟩ := hu
    rw [hnP]
    refine jj_if_eq X d_tr_arrive_19 29 22 (by decide) rfl (fun c19 => ?_) (fun c19 => ?_)
    · have c19 := b2_f c19
      refine jj_iconst (v := 0) X d_tr_arrive_29 30 rfl (by decide) ?_
      exact jj_iret X hr hlk d_tr_arrive_30 (⟨by simp [s_arr, okA, *], by simp [s_arr, okA, *]⟩)
    · have c19 := b2_t c19
      refine jj_iload_n X d_tr_arrive_22 23 rfl 3 rfl ?_
      refine jj_callS0 (st := []) X d_tr_arrive_23 26 rfl (c_tr_isDay l D cI cZ q A d) g_tr_75 ⟨rfl, w_tr_isDay⟩ ⟨(Nat.le_of_ble_eq_true rfl), (Nat.le_of_ble_eq_true rfl)⟩ rfl rfl (Nat.le_of_ble_eq_true rfl) ⟨rfl, rfl⟩ ⟨Nat.zero_le _, Nat.zero_le _⟩ (fun r u hu => ?_)
      obtain ⟨rfl, rfl⟩ := hu
      refine jj_if_ne X d_tr_arrive_26 31 29 (by decide) rfl (fun c26 => ?_) (fun c26 => ?_)
      · have c26 := b2_t c26
        have hx : vp_in x 151 := h1_in c8 (by rw [nI_toInt (by omega)]; omega)
        refine jj_aload_n X d_tr_arrive_31 32 rfl 0 rfl ?_
        refine jj_get (v := .ref (q 5)) X d_tr_arrive_32 35 rfl i_tr 3 f_tr_33 0 rfl rfl (by decide) rfl rfl ?_
        refine jj_iload_n X d_tr_arrive_35 36 rfl 1 rfl ?_
        refine jj_callV0 (st := []) X d_tr_arrive_36 39 rfl (c_sl_isUnderWay l D cI cZ q A x (hx)) g_tr_168 ⟨rfl, w_sl_isUnderWay⟩ ⟨(Nat.le_of_ble_eq_true rfl), (Nat.le_of_ble_eq_true rfl)⟩ rfl 5 rfl rfl rfl (Nat.le_of_ble_eq_true rfl) ⟨rfl, rfl⟩ ⟨Nat.zero_le _, Nat.zero_le _⟩ (fun r u hu => ?_)
        obtain ⟨rfl, rfl⟩ := hu
        refine jj_if_eq X d_tr_arrive_39 55 42 (by decide) rfl (fun c39 => ?_) (fun c39 => ?_)
        · have c39 := b2_f c39
          refine jj_iconst (v := 0) X d_tr_arrive_55 56 rfl (by decide) ?_
          exact jj_iret X hr hlk d_tr_arrive_56 (⟨by simp [s_arr, okA, *], by simp [s_arr, okA, *]⟩)
        · have c39 := b2_t c39
          refine jj_iload_n X d_tr_arrive_42 43 rfl 3 rfl ?_
          refine jj_aload_n X d_tr_arrive_43 44 rfl 0 rfl ?_
          refine jj_get (v := .ref (q 5)) X d_tr_arrive_44 47 rfl i_tr 3 f_tr_33 0 rfl rfl (by decide) rfl rfl ?_
          refine jj_get (v := .ref (q 26)) X d_tr_arrive_47 50 rfl i_sl 4 f_tr_171 5 rfl rfl (by decide) rfl rfl ?_
          refine jj_iload_n X d_tr_arrive_50 51 rfl 1 rfl ?_
          refine jj_iald (v := A 19 x.toNatClampNeg) X d_tr_arrive_51 52 rfl 26 0 rfl rfl (by assumption) (rfl) ?_
          refine jj_icmp_ge X d_tr_arrive_52 57 55 (by decide) rfl (fun c52 => ?_) (fun c52 => ?_)
          · refine jj_aload_n X d_tr_arrive_57 58 rfl 0 rfl ?_
            refine jj_get (v := .ref (q 5)) X d_tr_arrive_58 61 rfl i_tr 3 f_tr_33 0 rfl rfl (by decide) rfl rfl ?_
            refine jj_get (v := .ref (q 22)) X d_tr_arrive_61 64 rfl i_sl 0 f_tr_124 5 rfl rfl (by decide) rfl rfl ?_
            refine jj_iload_n X d_tr_arrive_64 65 rfl 1 rfl ?_
            refine jj_iald (v := A 15 x.toNatClampNeg) X d_tr_arrive_65 66 rfl 22 0 rfl rfl (by assumption) (rfl) ?_
            refine jj_istore (lv' := [(0, .ref (q 0)), (1, .int x), (2, .int y), (3, .int d), (4, .int (A 15 x.toNatClampNeg))]) X d_tr_arrive_66 68 rfl (by decide) rfl rfl ?_
            refine jj_aload_n X d_tr_arrive_68 69 rfl 0 rfl ?_
            refine jj_get (v := .ref (q 2)) X d_tr_arrive_69 72 rfl i_tr 1 f_tr_19 0 rfl rfl (by decide) rfl rfl ?_
            refine jj_get (v := .ref (q 10)) X d_tr_arrive_72 75 rfl i_ro 1 f_tr_144 2 rfl rfl (by decide) rfl rfl ?_
            refine jj_aload_n X d_tr_arrive_75 76 rfl 0 rfl ?_
            refine jj_get (v := .ref (q 5)) X d_tr_arrive_76 79 rfl i_tr 3 f_tr_33 0 rfl rfl (by decide) rfl rfl ?_
            refine jj_get (v := .ref (q 23)) X d_tr_arrive_79 82 rfl i_sl 1 f_tr_174 5 rfl rfl (by decide) rfl rfl ?_
            refine jj_iload_n X d_tr_arrive_82 83 rfl 1 rfl ?_
            refine jj_iald (v := A 16 x.toNatClampNeg) X d_tr_arrive_83 84 rfl 23 0 rfl rfl (by assumption) (rfl) ?_
            refine jj_iald (v := A 3 (A 16 x.toNatClampNeg).toNatClampNeg) X d_tr_arrive_84 85 rfl 10 0 rfl rfl (hrg.2.1 _) (rfl) ?_
            refine jj_iload_n X d_tr_arrive_85 86 rfl 2 rfl ?_
            refine jj_icmp_ne X d_tr_arrive_86 93 89 (by decide) rfl (fun c86 => ?_) (fun c86 => ?_)
            · refine jj_iconst (v := 0) X d_tr_arrive_93 94 rfl (by decide) ?_
              refine jj_istore (lv' := [(0, .ref (q 0)), (1, .int x), (2, .int y), (3, .int d), (4, .int (A 15 x.toNatClampNeg)), (5, .int 0)]) X d_tr_arrive_94 96 rfl (by decide) rfl rfl ?_
              refine jj_aload_n X d_tr_arrive_96 97 rfl 0 rfl ?_
              refine jj_get (v := .ref (q 5)) X d_tr_arrive_97 100 rfl i_tr 3 f_tr_33 0 rfl rfl (by decide) rfl rfl ?_
              refine jj_get (v := .ref (q 24)) X d_tr_arrive_100 103 rfl i_sl 2 f_tr_121 5 rfl rfl (by decide) rfl rfl ?_
              refine jj_iload_n X d_tr_arrive_103 104 rfl 1 rfl ?_
              refine jj_iload X d_tr_arrive_104 106 rfl 5 rfl ?_
              refine jj_if_eq X d_tr_arrive_106 113 109 (by decide) rfl (fun c106 => ?_) (fun c106 => ?_)
              · refine jj_iconst (v := 4) X d_tr_arrive_113 114 rfl (by decide) ?_
                refine jj_iast (ws' := tw cI cZ q ((ua A 17 (upd (A 17) x.toNatClampNeg 4)))) X d_tr_arrive_114 115 rfl 24 0 rfl rfl (by assumption) rfl ?_
                refine jj_aload_n X d_tr_arrive_115 116 rfl 0 rfl ?_
                refine jj_get (v := .ref (q 5)) X d_tr_arrive_116 119 rfl i_tr 3 f_tr_33 0 rfl rfl (by decide) rfl rfl ?_
                refine jj_get (v := .ref (q 27)) X d_tr_arrive_119 122 rfl i_sl 5 f_tr_177 5 rfl rfl (by decide) rfl rfl ?_
                refine jj_iload_n X d_tr_arrive_122 123 rfl 1 rfl ?_
                refine jj_iload_n X d_tr_arrive_123 124 rfl 3 rfl ?_
                refine jj_iast (ws' := tw cI cZ q ((ua (ua A 17 (upd (A 17) x.toNatClampNeg 4)) 20 (upd (A 20) x.toNatClampNeg d)))) X d_tr_arrive_124 125 rfl 27 0 rfl rfl (by assumption) rfl ?_
                refine jj_aload_n X d_tr_arrive_125 126 rfl 0 rfl ?_
                refine jj_get (v := .ref (q 4)) X d_tr_arrive_126 129 rfl i_tr 2 f_tr_26 0 rfl rfl (by decide) rfl rfl ?_
                refine jj_get (v := .ref (q 19)) X d_tr_arrive_129 132 rfl i_cp 2 f_tr_100 4 rfl rfl (by decide) rfl rfl ?_
                refine jj_iload X d_tr_arrive_132 134 rfl 4 rfl ?_
                refine jj_iconst (v := 0) X d_tr_arrive_134 135 rfl (by decide) ?_
                refine jj_iast (ws' := tw cI cZ q ((ua (ua (ua A 12 (upd (A 12) ((A 15 x.toNatClampNeg).toNatClampNeg) 0)) 17 (upd (A 17) x.toNatClampNeg 4)) 20 (upd (A 20) x.toNatClampNeg d)))) X d_tr_arrive_135 136 rfl 19 0 rfl rfl (hrg.1 _) rfl ?_
                refine jj_aload_n X d_tr_arrive_136 137 rfl 0 rfl ?_
                refine jj_get (v := .ref (q 4)) X d_tr_arrive_137 140 rfl i_tr 2 f_tr_26 0 rfl rfl (by decide) rfl rfl ?_
                refine jj_get (v := .ref (q 18)) X d_tr_arrive_140 143 rfl i_cp 1 f_tr_103 4 rfl rfl (by decide) rfl rfl ?_
                refine jj_iload X d_tr_arrive_143 145 rfl 4 rfl ?_
                refine jj_iload_n X d_tr_arrive_145 146 rfl 2 rfl ?_
                refine jj_iast (ws' := tw cI cZ q ((ua (ua (ua (ua A 11 (upd (A 11) ((A 15 x.toNatClampNeg).toNatClampNeg) y)) 12 (upd (A 12) ((A 15 x.toNatClampNeg).toNatClampNeg) 0)) 17 (upd (A 17) x.toNatClampNeg 4)) 20 (upd (A 20) x.toNatClampNeg d)))) X d_tr_arrive_146 147 rfl 18 0 rfl rfl (hrg.1 _) rfl ?_
                refine jj_iload X d_tr_arrive_147 149 rfl 5 rfl ?_
                refine jj_if_eq X d_tr_arrive_149 176 152 (by decide) rfl (fun c149 => ?_) (fun c149 => ?_)
                · refine jj_iload X d_tr_arrive_176 178 rfl 5 rfl ?_
                  refine jj_if_eq X d_tr_arrive_178 185 181 (by decide) rfl (fun c178 => ?_) (fun c178 => ?_)
                  · refine jj_iconst (v := -1) X d_tr_arrive_185 186 rfl (by decide) ?_
                    exact jj_iret X hr hlk d_tr_arrive_186 (⟨by simp [s_arr, okA, *], by simp [s_arr, okA, *]⟩)
                  · exact absurd c178 (by decide)
                · exact absurd c149 (by decide)
              · exact absurd c106 (by decide)
            · refine jj_iconst (v := 1) X d_tr_arrive_89 90 rfl (by decide) ?_
              refine jj_goto X d_tr_arrive_90 94 (by decide) ?_
              refine jj_istore (lv' := [(0, .ref (q 0)), (1, .int x), (2, .int y), (3, .int d), (4, .int (A 15 x.toNatClampNeg)), (5, .int 1)]) X d_tr_arrive_94 96 rfl (by decide) rfl rfl ?_
              refine jj_aload_n X d_tr_arrive_96 97 rfl 0 rfl ?_
              refine jj_get (v := .ref (q 5)) X d_tr_arrive_97 100 rfl i_tr 3 f_tr_33 0 rfl rfl (by decide) rfl rfl ?_
              refine jj_get (v := .ref (q 24)) X d_tr_arrive_100 103 rfl i_sl 2 f_tr_121 5 rfl rfl (by decide) rfl rfl ?_
              refine jj_iload_n X d_tr_arrive_103 104 rfl 1 rfl ?_
              refine jj_iload X d_tr_arrive_104 106 rfl 5 rfl ?_
              refine jj_if_eq X d_tr_arrive_106 113 109 (by decide) rfl (fun c106 => ?_) (fun c106 => ?_)
              · exact absurd c106 (by decide)
              · refine jj_iconst (v := 2) X d_tr_arrive_109 110 rfl (by decide) ?_
                refine jj_goto X d_tr_arrive_110 114 (by decide) ?_
                refine jj_iast (ws' := tw cI cZ q ((ua A 17 (upd (A 17) x.toNatClampNeg 2)))) X d_tr_arrive_114 115 rfl 24 0 rfl rfl (by assumption) rfl ?_
                refine jj_aload_n X d_tr_arrive_115 116 rfl 0 rfl ?_
                refine jj_get (v := .ref (q 5)) X d_tr_arrive_116 119 rfl i_tr 3 f_tr_33 0 rfl rfl (by decide) rfl rfl ?_
                refine jj_get (v := .ref (q 27)) X d_tr_arrive_119 122 rfl i_sl 5 f_tr_177 5 rfl rfl (by decide) rfl rfl ?_
                refine jj_iload_n X d_tr_arrive_122 123 rfl 1 rfl ?_
                refine jj_iload_n X d_tr_arrive_123 124 rfl 3 rfl ?_
                refine jj_iast (ws' := tw cI cZ q ((ua (ua A 17 (upd (A 17) x.toNatClampNeg 2)) 20 (upd (A 20) x.toNatClampNeg d)))) X d_tr_arrive_124 125 rfl 27 0 rfl rfl (by assumption) rfl ?_
                refine jj_aload_n X d_tr_arrive_125 126 rfl 0 rfl ?_
                refine jj_get (v := .ref (q 4)) X d_tr_arrive_126 129 rfl i_tr 2 f_tr_26 0 rfl rfl (by decide) rfl rfl ?_
                refine jj_get (v := .ref (q 19)) X d_tr_arrive_129 132 rfl i_cp 2 f_tr_100 4 rfl rfl (by decide) rfl rfl ?_
                refine jj_iload X d_tr_arrive_132 134 rfl 4 rfl ?_
                refine jj_iconst (v := 0) X d_tr_arrive_134 135 rfl (by decide) ?_
                refine jj_iast (ws' := tw cI cZ q ((ua (ua (ua A 12 (upd (A 12) ((A 15 x.toNatClampNeg).toNatClampNeg) 0)) 17 (upd (A 17) x.toNatClampNeg 2)) 20 (upd (A 20) x.toNatClampNeg d)))) X d_tr_arrive_135 136 rfl 19 0 rfl rfl (hrg.1 _) rfl ?_
                refine jj_aload_n X d_tr_arrive_136 137 rfl 0 rfl ?_
                refine jj_get (v := .ref (q 4)) X d_tr_arrive_137 140 rfl i_tr 2 f_tr_26 0 rfl rfl (by decide) rfl rfl ?_
                refine jj_get (v := .ref (q 18)) X d_tr_arrive_140 143 rfl i_cp 1 f_tr_103 4 rfl rfl (by decide) rfl rfl ?_
                refine jj_iload X d_tr_arrive_143 145 rfl 4 rfl ?_
                refine jj_iload_n X d_tr_arrive_145 146 rfl 2 rfl ?_
                refine jj_iast (ws' := tw cI cZ q ((ua (ua (ua (ua A 11 (upd (A 11) ((A 15 x.toNatClampNeg).toNatClampNeg) y)) 12 (upd (A 12) ((A 15 x.toNatClampNeg).toNatClampNeg) 0)) 17 (upd (A 17) x.toNatClampNeg 2)) 20 (upd (A 20) x.toNatClampNeg d)))) X d_tr_arrive_146 147 rfl 18 0 rfl rfl (hrg.1 _) rfl ?_
                refine jj_iload X d_tr_arrive_147 149 rfl 5 rfl ?_
                refine jj_if_eq X d_tr_arrive_149 176 152 (by decide) rfl (fun c149 => ?_) (fun c149 => ?_)
                · exact absurd c149 (by decide)
                · refine jj_aload_n X d_tr_arrive_152 153 rfl 0 rfl ?_
                  refine jj_get (v := .ref (q 4)) X d_tr_arrive_153 156 rfl i_tr 2 f_tr_26 0 rfl rfl (by decide) rfl rfl ?_
                  refine jj_get (v := .ref (q 21)) X d_tr_arrive_156 159 rfl i_cp 4 f_tr_97 4 rfl rfl (by decide) rfl rfl ?_
                  refine jj_iload X d_tr_arrive_159 161 rfl 4 rfl ?_
                  refine jj_zald (v := A 14 (A 15 x.toNatClampNeg).toNatClampNeg) X d_tr_arrive_161 162 rfl 21 1 rfl rfl (hrg.1 _) (rfl) ?_
                  refine jj_if_eq X d_tr_arrive_162 176 165 (by decide) rfl (fun c162 => ?_) (fun c162 => ?_)
                  · refine jj_iload X d_tr_arrive_176 178 rfl 5 rfl ?_
                    refine jj_if_eq X d_tr_arrive_178 185 181 (by decide) rfl (fun c178 => ?_) (fun c178 => ?_)
                    · exact absurd c178 (by decide)
                    · refine jj_iconst (v := 1) X d_tr_arrive_181 182 rfl (by decide) ?_
                      refine jj_goto X d_tr_arrive_182 186 (by decide) ?_
                      exact jj_iret X hr hlk d_tr_arrive_186 (⟨by simp [s_arr, okA, *], by simp [s_arr, okA, *]⟩)
                  · refine jj_aload_n X d_tr_arrive_165 166 rfl 0 rfl ?_
                    refine jj_get (v := .ref (q 4)) X d_tr_arrive_166 169 rfl i_tr 2 f_tr_26 0 rfl rfl (by decide) rfl rfl ?_
                    refine jj_get (v := .ref (q 17)) X d_tr_arrive_169 172 rfl i_cp 0 f_tr_180 4 rfl rfl (by decide) rfl rfl ?_
                    refine jj_iload X d_tr_arrive_172 174 rfl 4 rfl ?_
                    refine jj_iload_n X d_tr_arrive_174 175 rfl 2 rfl ?_
                    refine jj_iast (ws' := tw cI cZ q ((ua (ua (ua (ua (ua A 10 (upd (A 10) ((A 15 x.toNatClampNeg).toNatClampNeg) y)) 11 (upd (A 11) ((A 15 x.toNatClampNeg).toNatClampNeg) y)) 12 (upd (A 12) ((A 15 x.toNatClampNeg).toNatClampNeg) 0)) 17 (upd (A 17) x.toNatClampNeg 2)) 20 (upd (A 20) x.toNatClampNeg d)))) X d_tr_arrive_175 176 rfl 17 0 rfl rfl (hrg.1 _) rfl ?_
                    refine jj_iload X d_tr_arrive_176 178 rfl 5 rfl ?_
                    refine jj_if_eq X d_tr_arrive_178 185 181 (by decide) rfl (fun c178 => ?_) (fun c178 => ?_)
                    · exact absurd c178 (by decide)
                    · refine jj_iconst (v := 1) X d_tr_arrive_181 182 rfl (by decide) ?_
                      refine jj_goto X d_tr_arrive_182 186 (by decide) ?_
                      exact jj_iret X hr hlk d_tr_arrive_186 (⟨by simp [s_arr, okA, *], by simp [s_arr, okA, *]⟩)
          · have c52 : ¬ A 19 x.toNatClampNeg ≤ d := c52
            refine jj_iconst (v := 0) X d_tr_arrive_55 56 rfl (by decide) ?_
            exact jj_iret X hr hlk d_tr_arrive_56 (⟨by simp [s_arr, okA, *], by simp [s_arr, okA, *]⟩)
      · have c26 := b2_f c26
        refine jj_iconst (v := 0) X d_tr_arrive_29 30 rfl (by decide) ?_
        exact jj_iret X hr hlk d_tr_arrive_30 (⟨by simp [s_arr, okA, *], by simp [s_arr, okA, *]⟩)
set_option maxRecDepth 100000 in
set_option maxHeartbeats 4000000 in
theorem c_tr_lost (l : Launch) (D : va_G) (cI cZ : ClassId) (q : Nat → Nat) (A : Rows) (nS : Nat) (d : Int32) (hnS : A 0 4 = nI nS) (hlS : nS ≤ 150) (hrg : rgC A) : mt_I l D cls_ [(cI, .int), (cZ, .boolean)] nst_ y_tr_lost (Cond.code y_tr_lost b_tr_lost 4 (some .int) :: gt_) (rmd 1) [.ref (q 0), .int d] (tw cI cZ q A) (fun r u => r = (if dC d = true then (x_lost A d nS 1 0 (A 17)).1 else -1) ∧ u = tw cI cZ q (if dC d = true then ua A 17 (x_lost A d nS 1 0 (A 17)).2 else A)) := by
  refine mt_I_of (by decide) (Nat.le_of_ble_eq_true rfl) ?_
  intro p e s m below meth c AA X hr hlk
  refine jj_lve (lv' := [(0, .ref (q 0)), (1, .int d)]) rfl ?_
  refine jj_iload_n X d_tr_lost_0 1 rfl 1 rfl ?_
  refine jj_callS0 (st := []) X d_tr_lost_1 4 rfl (c_tr_isDay l D cI cZ q A d) g_tr_75 ⟨rfl, w_tr_isDay⟩ ⟨(Nat.le_of_ble_eq_true rfl), (Nat.le_of_ble_eq_true rfl)⟩ rfl rfl (Nat.le_of_ble_eq_true rfl) ⟨rfl, rfl⟩ ⟨Nat.zero_le _, Nat.zero_le _⟩ (fun r u hu => ?_)
  obtain ⟨rfl, rfl⟩ := hu
  refine jj_if_ne X d_tr_lost_4 9 7 (by decide) rfl (fun c4 => ?_) (fun c4 => ?_)
  · have c4 := b2_t c4
    refine jj_iconst (v := 0) X d_tr_lost_9 10 rfl (by decide) ?_
    refine jj_istore_n (lv' := [(0, .ref (q 0)), (1, .int d), (2, .int 0)]) X d_tr_lost_10 11 rfl (by decide) rfl rfl ?_
    refine jj_iconst (v := 1) X d_tr_lost_11 12 rfl (by decide) ?_
    refine jj_istore_n (lv' := [(0, .ref (q 0)), (1, .int d), (2, .int 0), (3, .int 1)]) X d_tr_lost_12 13 rfl (by decide) rfl rfl ?_
    refine jj_loop (fun ((j, c0, f) : Nat × Int32 × (Nat → Int32)) => 1 ≤ j ∧ j ≤ nS + 1 ∧ x_lost A d (nS + 1 - j) j c0 f = x_lost A d nS 1 0 (A 17)) (fun ((j, c0, f) : Nat × Int32 × (Nat → Int32)) => nS + 1 - j) (fun ((j, c0, f) : Nat × Int32 × (Nat → Int32)) => [(0, .ref (q 0)), (1, .int d), (2, .int c0), (3, .int (nI j))]) (fun ((j, c0, f) : Nat × Int32 × (Nat → Int32)) => []) (fun ((j, c0, f) : Nat × Int32 × (Nat → Int32)) => tw cI cZ q ((ua A 17 (f)))) ((1, 0, A 17)) (⟨Nat.le_refl _, by simp, rfl⟩) rfl rfl rfl ?_
    rintro ⟨j, c0, f⟩ hI ih13
    try dsimp only at hI ih13 ⊢
    obtain ⟨hj1, hj, hf⟩ := hI
    have hrg : rgC (ua A 17 f) := hrg
    refine jj_iload_n X d_tr_lost_13 14 rfl 3 rfl ?_
    refine jj_aload_n X d_tr_lost_14 15 rfl 0 rfl ?_
    refine jj_get (v := .ref (q 5)) X d_tr_lost_15 18 rfl i_tr 3 f_tr_33 0 rfl rfl (by decide) rfl rfl ?_
    refine jj_get (v := .int (nI nS)) X d_tr_lost_18 21 rfl i_sl 6 f_tr_106 5 rfl rfl (by decide) rfl (by rw [← hnS]; rfl) ?_
    refine jj_icmp_gt X d_tr_lost_21 68 24 (by decide) rfl (fun c21 => ?_) (fun c21 => ?_)
    · have hjn : j = nS + 1 := by have := nI_ltD c21 (by omega) (by omega); omega
      subst hjn
      refine jj_iload_n X d_tr_lost_68 69 rfl 2 rfl ?_
      exact jj_iret X hr hlk d_tr_lost_69 (⟨by rw [if_pos c4, ← hf, Nat.sub_self]; rfl, by rw [if_pos c4, ← hf, Nat.sub_self]; rfl⟩)
    · have hjn : j ≤ nS := nI_nltD c21 (by omega) (by omega)
      refine jj_aload_n X d_tr_lost_24 25 rfl 0 rfl ?_
      refine jj_get (v := .ref (q 5)) X d_tr_lost_25 28 rfl i_tr 3 f_tr_33 0 rfl rfl (by decide) rfl rfl ?_
      refine jj_get (v := .ref (q 24)) X d_tr_lost_28 31 rfl i_sl 2 f_tr_121 5 rfl rfl (by decide) rfl rfl ?_
      refine jj_iload_n X d_tr_lost_31 32 rfl 3 rfl ?_
      refine jj_iald (v := (f) j) X d_tr_lost_32 33 rfl 24 0 rfl rfl (vp_in_nI (by omega) (by omega)) (ar_cl (by omega)) ?_
      refine jj_iconst (v := 1) X d_tr_lost_33 34 rfl (by decide) ?_
      refine jj_icmp_ne X d_tr_lost_34 62 37 (by decide) rfl (fun c34 => ?_) (fun c34 => ?_)
      · refine jj_iinc (v := nI (j + 1)) (lv' := [(0, .ref (q 0)), (1, .int d), (2, .int c0), (3, .int (nI (j + 1)))]) X d_tr_lost_62 65 rfl 3 rfl (ar_inc _) (by decide) rfl rfl ?_
        refine jj_goto X d_tr_lost_65 13 (by decide) ?_
        exact ih13 ((j + 1, c0, f)) (⟨by simp only; omega, by simp only; omega, by simp only; rw [← hf, x_lost_s hjn]; simp [*]⟩) (by simp only; omega)
      · refine jj_iload_n X d_tr_lost_37 38 rfl 1 rfl ?_
        refine jj_aload_n X d_tr_lost_38 39 rfl 0 rfl ?_
        refine jj_iload_n X d_tr_lost_39 40 rfl 3 rfl ?_
        refine jj_callV0 (st := [.int d]) X d_tr_lost_40 43 rfl (c_tr_dueDay l D cI cZ q ((ua A 17 (f))) (nI j) hrg (vp_in_nI (by omega) (by omega))) g_tr_183 ⟨rfl, w_tr_dueDay⟩ ⟨(Nat.le_of_ble_eq_true rfl), (Nat.le_of_ble_eq_true rfl)⟩ rfl 0 rfl rfl rfl (Nat.le_of_ble_eq_true rfl) ⟨rfl, rfl⟩ ⟨Nat.zero_le _, Nat.zero_le _⟩ (fun r u hu => ?_)
        obtain ⟨rfl, rfl⟩ := hu
        refine jj_isub X d_tr_lost_43 44 rfl ?_
        refine jj_bipush (v := 14) X d_tr_lost_44 46 rfl (by decide) ?_
        refine jj_icmp_le X d_tr_lost_46 62 49 (by decide) rfl (fun c46 => ?_) (fun c46 => ?_)
        · have c46 : ¬ 14 < d - duC A (nI j) := Int32.not_lt.mpr c46
          refine jj_iinc (v := nI (j + 1)) (lv' := [(0, .ref (q 0)), (1, .int d), (2, .int c0), (3, .int (nI (j + 1)))]) X d_tr_lost_62 65 rfl 3 rfl (ar_inc _) (by decide) rfl rfl ?_
          refine jj_goto X d_tr_lost_65 13 (by decide) ?_
          exact ih13 ((j + 1, c0, f)) (⟨by simp only; omega, by simp only; omega, by simp only; rw [← hf, x_lost_s hjn]; simp [*]⟩) (by simp only; omega)
        · have c46 : 14 < d - duC A (nI j) := Int32.not_le.mp c46
          refine jj_aload_n X d_tr_lost_49 50 rfl 0 rfl ?_
          refine jj_get (v := .ref (q 5)) X d_tr_lost_50 53 rfl i_tr 3 f_tr_33 0 rfl rfl (by decide) rfl rfl ?_
          refine jj_get (v := .ref (q 24)) X d_tr_lost_53 56 rfl i_sl 2 f_tr_121 5 rfl rfl (by decide) rfl rfl ?_
          refine jj_iload_n X d_tr_lost_56 57 rfl 3 rfl ?_
          refine jj_iconst (v := 3) X d_tr_lost_57 58 rfl (by decide) ?_
          refine jj_iast (ws' := tw cI cZ q ((ua A 17 (upd (f) j 3)))) X d_tr_lost_58 59 rfl 24 0 rfl rfl (vp_in_nI (by omega) (by omega)) (by rw [nI_clamp (by omega)]; rfl) ?_
          refine jj_iinc (v := c0 + 1) (lv' := [(0, .ref (q 0)), (1, .int d), (2, .int (c0 + 1)), (3, .int (nI j))]) X d_tr_lost_59 62 rfl 2 rfl rfl (by decide) rfl rfl ?_
          refine jj_iinc (v := nI (j + 1)) (lv' := [(0, .ref (q 0)), (1, .int d), (2, .int (c0 + 1)), (3, .int (nI (j + 1)))]) X d_tr_lost_62 65 rfl 3 rfl (ar_inc _) (by decide) rfl rfl ?_
          refine jj_goto X d_tr_lost_65 13 (by decide) ?_
          exact ih13 ((j + 1, c0 + 1, upd (f) j 3)) (⟨by simp only; omega, by simp only; omega, by simp only; rw [← hf, x_lost_s hjn]; simp [*]⟩) (by simp only; omega)
  · have c4 := b2_f c4
    refine jj_iconst (v := -1) X d_tr_lost_7 8 rfl (by decide) ?_
    exact jj_iret X hr hlk d_tr_lost_8 (⟨by simp [*], by simp [*]⟩)
set_option maxRecDepth 100000 in
set_option maxHeartbeats 4000000 in
theorem c_tr_slip (l : Launch) (D : va_G) (cI cZ : ClassId) (q : Nat → Nat) (A : Rows) (nS : Nat) (x w : Int32) (hnS : A 0 4 = nI nS) (hlS : nS ≤ 150) (hrg : rgC A) : mt_I l D cls_ [(cI, .int), (cZ, .boolean)] nst_ y_tr_slip (Cond.code y_tr_slip b_tr_slip 3 (some .int) :: gt_) (rmd 1) [.ref (q 0), .int x, .int w] (tw cI cZ q A) (fun r u => r = o_slip A nS x w ∧ u = tw cI cZ q A) := by
  refine mt_I_of (by decide) (Nat.le_of_ble_eq_true rfl) ?_
  intro p e s m below meth c AA X hr hlk
  refine jj_lve (lv' := [(0, .ref (q 0)), (1, .int x), (2, .int w)]) rfl ?_
  refine jj_aload_n X d_tr_slip_0 1 rfl 0 rfl ?_
  refine jj_get (v := .ref (q 5)) X d_tr_slip_1 4 rfl i_tr 3 f_tr_33 0 rfl rfl (by decide) rfl rfl ?_
  refine jj_iload_n X d_tr_slip_4 5 rfl 1 rfl ?_
  refine jj_callV0 (st := []) X d_tr_slip_5 8 rfl (c_sl_has l D cI cZ q A x) g_tr_120 ⟨rfl, w_sl_has⟩ ⟨(Nat.le_of_ble_eq_true rfl), (Nat.le_of_ble_eq_true rfl)⟩ rfl 5 rfl rfl rfl (Nat.le_of_ble_eq_true rfl) ⟨rfl, rfl⟩ ⟨Nat.zero_le _, Nat.zero_le _⟩ (fun r u hu => ?_)
  obtain ⟨rfl, rfl⟩ := hu
  rw [hnS]
  refine jj_if_ne X d_tr_slip_8 13 11 (by decide) rfl (fun c8 => ?_) (fun c8 => ?_)
  · have c8 := b2_t c8
    have hx : vp_in x 151 := h1_in c8 (by rw [nI_toInt (by omega)]; omega)
    refine jj_iload_n X d_tr_slip_13 14 rfl 2 rfl ?_
    by_cases e14_0 : w = 0
    · refine jj_tableIn X d_tr_slip_14 56 (by rw [e14_0]; decide) (by rw [e14_0]; decide) (by rw [e14_0]; rfl) (by decide) ?_
      refine jj_aload_n X d_tr_slip_56 57 rfl 0 rfl ?_
      refine jj_get (v := .ref (q 5)) X d_tr_slip_57 60 rfl i_tr 3 f_tr_33 0 rfl rfl (by decide) rfl rfl ?_
      refine jj_get (v := .ref (q 22)) X d_tr_slip_60 63 rfl i_sl 0 f_tr_124 5 rfl rfl (by decide) rfl rfl ?_
      refine jj_iload_n X d_tr_slip_63 64 rfl 1 rfl ?_
      refine jj_iald (v := A 15 x.toNatClampNeg) X d_tr_slip_64 65 rfl 22 0 rfl rfl (by assumption) (rfl) ?_
      exact jj_iret X hr hlk d_tr_slip_65 (⟨by simp [o_slip, *], rfl⟩)
    by_cases e14_1 : w = 1
    · refine jj_tableIn X d_tr_slip_14 66 (by rw [e14_1]; decide) (by rw [e14_1]; decide) (by rw [e14_1]; rfl) (by decide) ?_
      refine jj_aload_n X d_tr_slip_66 67 rfl 0 rfl ?_
      refine jj_get (v := .ref (q 5)) X d_tr_slip_67 70 rfl i_tr 3 f_tr_33 0 rfl rfl (by decide) rfl rfl ?_
      refine jj_get (v := .ref (q 23)) X d_tr_slip_70 73 rfl i_sl 1 f_tr_174 5 rfl rfl (by decide) rfl rfl ?_
      refine jj_iload_n X d_tr_slip_73 74 rfl 1 rfl ?_
      refine jj_iald (v := A 16 x.toNatClampNeg) X d_tr_slip_74 75 rfl 23 0 rfl rfl (by assumption) (rfl) ?_
      exact jj_iret X hr hlk d_tr_slip_75 (⟨by simp [o_slip, *], rfl⟩)
    by_cases e14_2 : w = 2
    · refine jj_tableIn X d_tr_slip_14 76 (by rw [e14_2]; decide) (by rw [e14_2]; decide) (by rw [e14_2]; rfl) (by decide) ?_
      refine jj_aload_n X d_tr_slip_76 77 rfl 0 rfl ?_
      refine jj_get (v := .ref (q 5)) X d_tr_slip_77 80 rfl i_tr 3 f_tr_33 0 rfl rfl (by decide) rfl rfl ?_
      refine jj_get (v := .ref (q 24)) X d_tr_slip_80 83 rfl i_sl 2 f_tr_121 5 rfl rfl (by decide) rfl rfl ?_
      refine jj_iload_n X d_tr_slip_83 84 rfl 1 rfl ?_
      refine jj_iald (v := A 17 x.toNatClampNeg) X d_tr_slip_84 85 rfl 24 0 rfl rfl (by assumption) (rfl) ?_
      exact jj_iret X hr hlk d_tr_slip_85 (⟨by simp [o_slip, *], rfl⟩)
    by_cases e14_3 : w = 3
    · refine jj_tableIn X d_tr_slip_14 86 (by rw [e14_3]; decide) (by rw [e14_3]; decide) (by rw [e14_3]; rfl) (by decide) ?_
      refine jj_aload_n X d_tr_slip_86 87 rfl 0 rfl ?_
      refine jj_get (v := .ref (q 5)) X d_tr_slip_87 90 rfl i_tr 3 f_tr_33 0 rfl rfl (by decide) rfl rfl ?_
      refine jj_get (v := .ref (q 25)) X d_tr_slip_90 93 rfl i_sl 3 f_tr_186 5 rfl rfl (by decide) rfl rfl ?_
      refine jj_iload_n X d_tr_slip_93 94 rfl 1 rfl ?_
      refine jj_iald (v := A 18 x.toNatClampNeg) X d_tr_slip_94 95 rfl 25 0 rfl rfl (by assumption) (rfl) ?_
      exact jj_iret X hr hlk d_tr_slip_95 (⟨by simp [o_slip, *], rfl⟩)
    by_cases e14_4 : w = 4
    · refine jj_tableIn X d_tr_slip_14 96 (by rw [e14_4]; decide) (by rw [e14_4]; decide) (by rw [e14_4]; rfl) (by decide) ?_
      refine jj_aload_n X d_tr_slip_96 97 rfl 0 rfl ?_
      refine jj_get (v := .ref (q 5)) X d_tr_slip_97 100 rfl i_tr 3 f_tr_33 0 rfl rfl (by decide) rfl rfl ?_
      refine jj_get (v := .ref (q 26)) X d_tr_slip_100 103 rfl i_sl 4 f_tr_171 5 rfl rfl (by decide) rfl rfl ?_
      refine jj_iload_n X d_tr_slip_103 104 rfl 1 rfl ?_
      refine jj_iald (v := A 19 x.toNatClampNeg) X d_tr_slip_104 105 rfl 26 0 rfl rfl (by assumption) (rfl) ?_
      exact jj_iret X hr hlk d_tr_slip_105 (⟨by simp [o_slip, *], rfl⟩)
    by_cases e14_5 : w = 5
    · refine jj_tableIn X d_tr_slip_14 106 (by rw [e14_5]; decide) (by rw [e14_5]; decide) (by rw [e14_5]; rfl) (by decide) ?_
      refine jj_aload_n X d_tr_slip_106 107 rfl 0 rfl ?_
      refine jj_iload_n X d_tr_slip_107 108 rfl 1 rfl ?_
      refine jj_callV0 (st := []) X d_tr_slip_108 111 rfl (c_tr_dueDay l D cI cZ q A x hrg (hx)) g_tr_183 ⟨rfl, w_tr_dueDay⟩ ⟨(Nat.le_of_ble_eq_true rfl), (Nat.le_of_ble_eq_true rfl)⟩ rfl 0 rfl rfl rfl (Nat.le_of_ble_eq_true rfl) ⟨rfl, rfl⟩ ⟨Nat.zero_le _, Nat.zero_le _⟩ (fun r u hu => ?_)
      obtain ⟨rfl, rfl⟩ := hu
      exact jj_iret X hr hlk d_tr_slip_111 (⟨by simp [o_slip, *], rfl⟩)
    by_cases e14_6 : w = 6
    · refine jj_tableIn X d_tr_slip_14 112 (by rw [e14_6]; decide) (by rw [e14_6]; decide) (by rw [e14_6]; rfl) (by decide) ?_
      refine jj_aload_n X d_tr_slip_112 113 rfl 0 rfl ?_
      refine jj_get (v := .ref (q 5)) X d_tr_slip_113 116 rfl i_tr 3 f_tr_33 0 rfl rfl (by decide) rfl rfl ?_
      refine jj_get (v := .ref (q 27)) X d_tr_slip_116 119 rfl i_sl 5 f_tr_177 5 rfl rfl (by decide) rfl rfl ?_
      refine jj_iload_n X d_tr_slip_119 120 rfl 1 rfl ?_
      refine jj_iald (v := A 20 x.toNatClampNeg) X d_tr_slip_120 121 rfl 27 0 rfl rfl (by assumption) (rfl) ?_
      exact jj_iret X hr hlk d_tr_slip_121 (⟨by simp [o_slip, *], rfl⟩)
    refine jj_tableOut X d_tr_slip_14 122 (sw_out 0 6 (by decide) (by decide) (fun z h1 h2 => by rcases (show z = 0 ∨ z = 1 ∨ z = 2 ∨ z = 3 ∨ z = 4 ∨ z = 5 ∨ z = 6 by omega) with rfl | rfl | rfl | rfl | rfl | rfl | rfl <;> assumption)) (by decide) ?_
    refine jj_iconst (v := -1) X d_tr_slip_122 123 rfl (by decide) ?_
    exact jj_iret X hr hlk d_tr_slip_123 (⟨by simp [o_slip, *], rfl⟩)
  · have c8 := b2_f c8
    refine jj_iconst (v := -1) X d_tr_slip_11 12 rfl (by decide) ?_
    exact jj_iret X hr hlk d_tr_slip_12 (⟨by simp [o_slip, *], rfl⟩)
set_option maxRecDepth 100000 in
set_option maxHeartbeats 4000000 in
theorem c_tr_where (l : Launch) (D : va_G) (cI cZ : ClassId) (q : Nat → Nat) (A : Rows) (nC : Nat) (x w : Int32) (hnC : A 0 3 = nI nC) (hlC : nC ≤ 60) : mt_I l D cls_ [(cI, .int), (cZ, .boolean)] nst_ y_tr_where (Cond.code y_tr_where b_tr_where 3 (some .int) :: gt_) (rmd 1) [.ref (q 0), .int x, .int w] (tw cI cZ q A) (fun r u => r = o_wh A nC x w ∧ u = tw cI cZ q A) := by
  refine mt_I_of (by decide) (Nat.le_of_ble_eq_true rfl) ?_
  intro p e s m below meth c AA X hr hlk
  refine jj_lve (lv' := [(0, .ref (q 0)), (1, .int x), (2, .int w)]) rfl ?_
  refine jj_aload_n X d_tr_where_0 1 rfl 0 rfl ?_
  refine jj_get (v := .ref (q 4)) X d_tr_where_1 4 rfl i_tr 2 f_tr_26 0 rfl rfl (by decide) rfl rfl ?_
  refine jj_iload_n X d_tr_where_4 5 rfl 1 rfl ?_
  refine jj_callV0 (st := []) X d_tr_where_5 8 rfl (c_cp_has l D cI cZ q A x) g_tr_93 ⟨rfl, w_cp_has⟩ ⟨(Nat.le_of_ble_eq_true rfl), (Nat.le_of_ble_eq_true rfl)⟩ rfl 4 rfl rfl rfl (Nat.le_of_ble_eq_true rfl) ⟨rfl, rfl⟩ ⟨Nat.zero_le _, Nat.zero_le _⟩ (fun r u hu => ?_)
  obtain ⟨rfl, rfl⟩ := hu
  rw [hnC]
  refine jj_if_ne X d_tr_where_8 13 11 (by decide) rfl (fun c8 => ?_) (fun c8 => ?_)
  · have c8 := b2_t c8
    have hx : vp_in x 61 := h1_in c8 (by rw [nI_toInt (by omega)]; omega)
    refine jj_iload_n X d_tr_where_13 14 rfl 2 rfl ?_
    by_cases e14_0 : w = 0
    · refine jj_tableIn X d_tr_where_14 40 (by rw [e14_0]; decide) (by rw [e14_0]; decide) (by rw [e14_0]; rfl) (by decide) ?_
      refine jj_aload_n X d_tr_where_40 41 rfl 0 rfl ?_
      refine jj_get (v := .ref (q 4)) X d_tr_where_41 44 rfl i_tr 2 f_tr_26 0 rfl rfl (by decide) rfl rfl ?_
      refine jj_get (v := .ref (q 19)) X d_tr_where_44 47 rfl i_cp 2 f_tr_100 4 rfl rfl (by decide) rfl rfl ?_
      refine jj_iload_n X d_tr_where_47 48 rfl 1 rfl ?_
      refine jj_iald (v := A 12 x.toNatClampNeg) X d_tr_where_48 49 rfl 19 0 rfl rfl (by assumption) (rfl) ?_
      refine jj_if_ne X d_tr_where_49 64 52 (by decide) rfl (fun c49 => ?_) (fun c49 => ?_)
      · refine jj_iconst (v := -1) X d_tr_where_64 65 rfl (by decide) ?_
        exact jj_iret X hr hlk d_tr_where_65 (⟨by simp [o_wh, *], rfl⟩)
      · refine jj_aload_n X d_tr_where_52 53 rfl 0 rfl ?_
        refine jj_get (v := .ref (q 4)) X d_tr_where_53 56 rfl i_tr 2 f_tr_26 0 rfl rfl (by decide) rfl rfl ?_
        refine jj_get (v := .ref (q 18)) X d_tr_where_56 59 rfl i_cp 1 f_tr_103 4 rfl rfl (by decide) rfl rfl ?_
        refine jj_iload_n X d_tr_where_59 60 rfl 1 rfl ?_
        refine jj_iald (v := A 11 x.toNatClampNeg) X d_tr_where_60 61 rfl 18 0 rfl rfl (by assumption) (rfl) ?_
        refine jj_goto X d_tr_where_61 65 (by decide) ?_
        exact jj_iret X hr hlk d_tr_where_65 (⟨by simp [o_wh, *], rfl⟩)
    by_cases e14_1 : w = 1
    · refine jj_tableIn X d_tr_where_14 66 (by rw [e14_1]; decide) (by rw [e14_1]; decide) (by rw [e14_1]; rfl) (by decide) ?_
      refine jj_aload_n X d_tr_where_66 67 rfl 0 rfl ?_
      refine jj_get (v := .ref (q 4)) X d_tr_where_67 70 rfl i_tr 2 f_tr_26 0 rfl rfl (by decide) rfl rfl ?_
      refine jj_get (v := .ref (q 17)) X d_tr_where_70 73 rfl i_cp 0 f_tr_180 4 rfl rfl (by decide) rfl rfl ?_
      refine jj_iload_n X d_tr_where_73 74 rfl 1 rfl ?_
      refine jj_iald (v := A 10 x.toNatClampNeg) X d_tr_where_74 75 rfl 17 0 rfl rfl (by assumption) (rfl) ?_
      exact jj_iret X hr hlk d_tr_where_75 (⟨by simp [o_wh, *], rfl⟩)
    by_cases e14_2 : w = 2
    · refine jj_tableIn X d_tr_where_14 76 (by rw [e14_2]; decide) (by rw [e14_2]; decide) (by rw [e14_2]; rfl) (by decide) ?_
      refine jj_aload_n X d_tr_where_76 77 rfl 0 rfl ?_
      refine jj_get (v := .ref (q 4)) X d_tr_where_77 80 rfl i_tr 2 f_tr_26 0 rfl rfl (by decide) rfl rfl ?_
      refine jj_get (v := .ref (q 19)) X d_tr_where_80 83 rfl i_cp 2 f_tr_100 4 rfl rfl (by decide) rfl rfl ?_
      refine jj_iload_n X d_tr_where_83 84 rfl 1 rfl ?_
      refine jj_iald (v := A 12 x.toNatClampNeg) X d_tr_where_84 85 rfl 19 0 rfl rfl (by assumption) (rfl) ?_
      exact jj_iret X hr hlk d_tr_where_85 (⟨by simp [o_wh, *], rfl⟩)
    refine jj_tableOut X d_tr_where_14 86 (sw_out 0 2 (by decide) (by decide) (fun z h1 h2 => by rcases (show z = 0 ∨ z = 1 ∨ z = 2 by omega) with rfl | rfl | rfl <;> assumption)) (by decide) ?_
    refine jj_iconst (v := -1) X d_tr_where_86 87 rfl (by decide) ?_
    exact jj_iret X hr hlk d_tr_where_87 (⟨by simp [o_wh, *], rfl⟩)
  · have c8 := b2_f c8
    refine jj_iconst (v := -1) X d_tr_where_11 12 rfl (by decide) ?_
    exact jj_iret X hr hlk d_tr_where_12 (⟨by simp [o_wh, *], rfl⟩)
set_option maxRecDepth 100000 in
set_option maxHeartbeats 4000000 in
theorem c_tr_told (l : Launch) (D : va_G) (cI cZ : ClassId) (q : Nat → Nat) (A : Rows) (nT : Nat) (x w : Int32) (hnT : A 0 6 = nI nT) (hlT : nT ≤ 100) : mt_I l D cls_ [(cI, .int), (cZ, .boolean)] nst_ y_tr_told (Cond.code y_tr_told b_tr_told 3 (some .int) :: gt_) (rmd 1) [.ref (q 0), .int x, .int w] (tw cI cZ q A) (fun r u => r = o_told A nT x w ∧ u = tw cI cZ q A) := by
  refine mt_I_of (by decide) (Nat.le_of_ble_eq_true rfl) ?_
  intro p e s m below meth c AA X hr hlk
  refine jj_lve (lv' := [(0, .ref (q 0)), (1, .int x), (2, .int w)]) rfl ?_
  refine jj_aload_n X d_tr_told_0 1 rfl 0 rfl ?_
  refine jj_get (v := .ref (q 7)) X d_tr_told_1 4 rfl i_tr 5 f_tr_47 0 rfl rfl (by decide) rfl rfl ?_
  refine jj_iload_n X d_tr_told_4 5 rfl 1 rfl ?_
  refine jj_callV0 (st := []) X d_tr_told_5 8 rfl (c_te_has l D cI cZ q A x) g_tr_199 ⟨rfl, w_te_has⟩ ⟨(Nat.le_of_ble_eq_true rfl), (Nat.le_of_ble_eq_true rfl)⟩ rfl 7 rfl rfl rfl (Nat.le_of_ble_eq_true rfl) ⟨rfl, rfl⟩ ⟨Nat.zero_le _, Nat.zero_le _⟩ (fun r u hu => ?_)
  obtain ⟨rfl, rfl⟩ := hu
  rw [hnT]
  refine jj_if_ne X d_tr_told_8 13 11 (by decide) rfl (fun c8 => ?_) (fun c8 => ?_)
  · have c8 := b2_t c8
    have hx : vp_in x 100 := hN_in c8 (by rw [nI_toInt (by omega)]; omega)
    refine jj_iload_n X d_tr_told_13 14 rfl 2 rfl ?_
    by_cases e14_0 : w = 0
    · refine jj_lookup X d_tr_told_14 40 (by decide) (by first | (rw [e14_0]; done) | (rw [e14_0]; rfl)) (by decide) ?_
      refine jj_aload_n X d_tr_told_40 41 rfl 0 rfl ?_
      refine jj_get (v := .ref (q 7)) X d_tr_told_41 44 rfl i_tr 5 f_tr_47 0 rfl rfl (by decide) rfl rfl ?_
      refine jj_get (v := .ref (q 30)) X d_tr_told_44 47 rfl i_te 0 f_tr_200 7 rfl rfl (by decide) rfl rfl ?_
      refine jj_iload_n X d_tr_told_47 48 rfl 1 rfl ?_
      refine jj_iald (v := A 23 x.toNatClampNeg) X d_tr_told_48 49 rfl 30 0 rfl rfl (by assumption) (rfl) ?_
      exact jj_iret X hr hlk d_tr_told_49 (⟨by simp [o_told, *], rfl⟩)
    by_cases e14_1 : w = 1
    · refine jj_lookup X d_tr_told_14 50 (by decide) (by first | (rw [e14_1]; done) | (rw [e14_1]; rfl)) (by decide) ?_
      refine jj_aload_n X d_tr_told_50 51 rfl 0 rfl ?_
      refine jj_get (v := .ref (q 7)) X d_tr_told_51 54 rfl i_tr 5 f_tr_47 0 rfl rfl (by decide) rfl rfl ?_
      refine jj_get (v := .ref (q 31)) X d_tr_told_54 57 rfl i_te 1 f_tr_203 7 rfl rfl (by decide) rfl rfl ?_
      refine jj_iload_n X d_tr_told_57 58 rfl 1 rfl ?_
      refine jj_iald (v := A 24 x.toNatClampNeg) X d_tr_told_58 59 rfl 31 0 rfl rfl (by assumption) (rfl) ?_
      exact jj_iret X hr hlk d_tr_told_59 (⟨by simp [o_told, *], rfl⟩)
    refine jj_lookup X d_tr_told_14 60 (by decide) (sw_lk (i3_ne e14_0 rfl) (i3_ne e14_1 rfl)) (by decide) ?_
    refine jj_iconst (v := -1) X d_tr_told_60 61 rfl (by decide) ?_
    exact jj_iret X hr hlk d_tr_told_61 (⟨by simp [o_told, *], rfl⟩)
  · have c8 := b2_f c8
    refine jj_iconst (v := -1) X d_tr_told_11 12 rfl (by decide) ?_
    exact jj_iret X hr hlk d_tr_told_12 (⟨by simp [o_told, *], rfl⟩)
set_option maxRecDepth 100000 in
set_option maxHeartbeats 4000000 in
theorem c_tr_loaded (l : Launch) (D : va_G) (cI cZ : ClassId) (q : Nat → Nat) (A : Rows) (nL : Nat) (E : Nat → Nat) (x i : Int32) (hnL : A 0 5 = nI nL) (hlL : nL ≤ 60) (hE : enC A nL E) : mt_I l D cls_ [(cI, .int), (cZ, .boolean)] nst_ y_tr_loaded (Cond.code y_tr_loaded b_tr_loaded 3 (some .int) :: gt_) (rmd 1) [.ref (q 0), .int x, .int i] (tw cI cZ q A) (fun r u => r = o_ld A nL x i ∧ u = tw cI cZ q A) := by
  refine mt_I_of (by decide) (Nat.le_of_ble_eq_true rfl) ?_
  intro p e s m below meth c AA X hr hlk
  refine jj_lve (lv' := [(0, .ref (q 0)), (1, .int x), (2, .int i)]) rfl ?_
  refine jj_aload_n X d_tr_loaded_0 1 rfl 0 rfl ?_
  refine jj_get (v := .ref (q 6)) X d_tr_loaded_1 4 rfl i_tr 4 f_tr_40 0 rfl rfl (by decide) rfl rfl ?_
  refine jj_iload_n X d_tr_loaded_4 5 rfl 1 rfl ?_
  refine jj_callV0 (st := []) X d_tr_loaded_5 8 rfl (c_ld_has l D cI cZ q A x) g_tr_161 ⟨rfl, w_ld_has⟩ ⟨(Nat.le_of_ble_eq_true rfl), (Nat.le_of_ble_eq_true rfl)⟩ rfl 6 rfl rfl rfl (Nat.le_of_ble_eq_true rfl) ⟨rfl, rfl⟩ ⟨Nat.zero_le _, Nat.zero_le _⟩ (fun r u hu => ?_)
  obtain ⟨rfl, rfl⟩ := hu
  rw [hnL]
  refine jj_if_eq X d_tr_loaded_8 27 11 (by decide) rfl (fun c8 => ?_) (fun c8 => ?_)
  · have c8 := b2_f c8
    refine jj_iconst (v := 0) X d_tr_loaded_27 28 rfl (by decide) ?_
    exact jj_iret X hr hlk d_tr_loaded_28 (⟨by simp [o_ld, *], rfl⟩)
  · have c8 := b2_t c8
    obtain ⟨k0, hk0, rfl⟩ := h1_of c8 (by omega)
    refine jj_iload_n X d_tr_loaded_11 12 rfl 2 rfl ?_
    refine jj_if_lt X d_tr_loaded_12 27 15 (by decide) rfl (fun c12 => ?_) (fun c12 => ?_)
    · refine jj_iconst (v := 0) X d_tr_loaded_27 28 rfl (by decide) ?_
      exact jj_iret X hr hlk d_tr_loaded_28 (⟨by simp [o_ld, nI_clamp (show k0 + 1 < 2 ^ 31 by omega), *], rfl⟩)
    · refine jj_iload_n X d_tr_loaded_15 16 rfl 2 rfl ?_
      refine jj_aload_n X d_tr_loaded_16 17 rfl 0 rfl ?_
      refine jj_get (v := .ref (q 6)) X d_tr_loaded_17 20 rfl i_tr 4 f_tr_40 0 rfl rfl (by decide) rfl rfl ?_
      refine jj_iload_n X d_tr_loaded_20 21 rfl 1 rfl ?_
      refine jj_callV0 (st := [.int i]) X d_tr_loaded_21 24 rfl (c_ld_size l D cI cZ q A k0 (by omega)) g_tr_162 ⟨rfl, w_ld_size⟩ ⟨(Nat.le_of_ble_eq_true rfl), (Nat.le_of_ble_eq_true rfl)⟩ rfl 6 rfl rfl rfl (Nat.le_of_ble_eq_true rfl) ⟨rfl, rfl⟩ ⟨Nat.zero_le _, Nat.zero_le _⟩ (fun r u hu => ?_)
      obtain ⟨rfl, rfl⟩ := hu
      refine jj_icmp_lt X d_tr_loaded_24 29 27 (by decide) rfl (fun c24 => ?_) (fun c24 => ?_)
      · refine jj_aload_n X d_tr_loaded_29 30 rfl 0 rfl ?_
        refine jj_get (v := .ref (q 6)) X d_tr_loaded_30 33 rfl i_tr 4 f_tr_40 0 rfl rfl (by decide) rfl rfl ?_
        refine jj_iload_n X d_tr_loaded_33 34 rfl 1 rfl ?_
        refine jj_iload_n X d_tr_loaded_34 35 rfl 2 rfl ?_
        refine jj_callV0 (st := []) X d_tr_loaded_35 38 rfl (c_ld_slipAt l D cI cZ q A k0 i (by omega) (enC_in hE hk0 c12 c24)) g_tr_165 ⟨rfl, w_ld_slipAt⟩ ⟨(Nat.le_of_ble_eq_true rfl), (Nat.le_of_ble_eq_true rfl)⟩ rfl 6 rfl rfl rfl (Nat.le_of_ble_eq_true rfl) ⟨rfl, rfl⟩ ⟨Nat.zero_le _, Nat.zero_le _⟩ (fun r u hu => ?_)
        obtain ⟨rfl, rfl⟩ := hu
        exact jj_iret X hr hlk d_tr_loaded_38 (⟨by simp [o_ld, nI_clamp (show k0 + 1 < 2 ^ 31 by omega), *], rfl⟩)
      · have c24 := c24
        refine jj_iconst (v := 0) X d_tr_loaded_27 28 rfl (by decide) ?_
        exact jj_iret X hr hlk d_tr_loaded_28 (⟨by simp [o_ld, nI_clamp (show k0 + 1 < 2 ^ 31 by omega), *], rfl⟩)
set_option maxRecDepth 100000 in
set_option maxHeartbeats 4000000 in
theorem c_tr_missing (l : Launch) (D : va_G) (cI cZ : ClassId) (q : Nat → Nat) (A : Rows) (nL : Nat) (E : Nat → Nat) (x i : Int32) (hnL : A 0 5 = nI nL) (hlL : nL ≤ 60) (hrg : rgC A) (hE : enC A nL E) : mt_I l D cls_ [(cI, .int), (cZ, .boolean)] nst_ y_tr_missing (Cond.code y_tr_missing b_tr_missing 6 (some .int) :: gt_) (rmd 1) [.ref (q 0), .int x, .int i] (tw cI cZ q A) (fun r u => r = o_mis A nL E x i ∧ u = tw cI cZ q A) := by
  refine mt_I_of (by decide) (Nat.le_of_ble_eq_true rfl) ?_
  intro p e s m below meth c AA X hr hlk
  refine jj_lve (lv' := [(0, .ref (q 0)), (1, .int x), (2, .int i)]) rfl ?_
  refine jj_aload_n X d_tr_missing_0 1 rfl 0 rfl ?_
  refine jj_get (v := .ref (q 6)) X d_tr_missing_1 4 rfl i_tr 4 f_tr_40 0 rfl rfl (by decide) rfl rfl ?_
  refine jj_iload_n X d_tr_missing_4 5 rfl 1 rfl ?_
  refine jj_callV0 (st := []) X d_tr_missing_5 8 rfl (c_ld_has l D cI cZ q A x) g_tr_161 ⟨rfl, w_ld_has⟩ ⟨(Nat.le_of_ble_eq_true rfl), (Nat.le_of_ble_eq_true rfl)⟩ rfl 6 rfl rfl rfl (Nat.le_of_ble_eq_true rfl) ⟨rfl, rfl⟩ ⟨Nat.zero_le _, Nat.zero_le _⟩ (fun r u hu => ?_)
  obtain ⟨rfl, rfl⟩ := hu
  rw [hnL]
  refine jj_if_eq X d_tr_missing_8 15 11 (by decide) rfl (fun c8 => ?_) (fun c8 => ?_)
  · have c8 := b2_f c8
    refine jj_iconst (v := 0) X d_tr_missing_15 16 rfl (by decide) ?_
    exact jj_iret X hr hlk d_tr_missing_16 (⟨by simp [o_mis, *], rfl⟩)
  · have c8 := b2_t c8
    obtain ⟨k0, hk0, rfl⟩ := h1_of c8 (by omega)
    have hsz : A 21 (k0 + 1) - A 21 k0 = nI (E (k0 + 1) - E k0) := by rw [hE.1 k0 (by omega), hE.1 (k0 + 1) (by omega), pk_sub (hE.2.1 k0 hk0)]
    have hE1 := enC_le hE (k0 + 1) (by omega)
    refine jj_iload_n X d_tr_missing_11 12 rfl 2 rfl ?_
    refine jj_if_ge X d_tr_missing_12 17 15 (by decide) rfl (fun c12 => ?_) (fun c12 => ?_)
    · have c12 := Int32.not_lt.mpr c12
      have hom : o_mis A nL E (nI (k0 + 1)) i = x_mis A k0 i (E (k0 + 1) - E k0) 0 0 := by simp [o_mis, nI_clamp (show k0 + 1 < 2 ^ 31 by omega), *]
      refine jj_iconst (v := 0) X d_tr_missing_17 18 rfl (by decide) ?_
      refine jj_istore_n (lv' := [(0, .ref (q 0)), (1, .int (nI (k0 + 1))), (2, .int i), (3, .int 0)]) X d_tr_missing_18 19 rfl (by decide) rfl rfl ?_
      refine jj_iconst (v := 0) X d_tr_missing_19 20 rfl (by decide) ?_
      refine jj_istore (lv' := [(0, .ref (q 0)), (1, .int (nI (k0 + 1))), (2, .int i), (3, .int 0), (4, .int 0)]) X d_tr_missing_20 22 rfl (by decide) rfl rfl ?_
      refine jj_loop (fun ((k, b0) : Nat × Int32) => k ≤ E (k0 + 1) - E k0 ∧ x_mis A k0 i (E (k0 + 1) - E k0 - k) k b0 = x_mis A k0 i (E (k0 + 1) - E k0) 0 0) (fun ((k, b0) : Nat × Int32) => E (k0 + 1) - E k0 - k) (fun ((k, b0) : Nat × Int32) => [(0, .ref (q 0)), (1, .int (nI (k0 + 1))), (2, .int i), (3, .int b0), (4, .int (nI k))]) (fun ((k, b0) : Nat × Int32) => []) (fun ((k, b0) : Nat × Int32) => tw cI cZ q A) ((0, 0)) (⟨Nat.zero_le _, rfl⟩) rfl rfl rfl ?_
      rintro ⟨k, b0⟩ hI ih22
      try dsimp only at hI ih22 ⊢
      obtain ⟨hk, hf⟩ := hI
      refine jj_iload X d_tr_missing_22 24 rfl 4 rfl ?_
      refine jj_aload_n X d_tr_missing_24 25 rfl 0 rfl ?_
      refine jj_get (v := .ref (q 6)) X d_tr_missing_25 28 rfl i_tr 4 f_tr_40 0 rfl rfl (by decide) rfl rfl ?_
      refine jj_iload_n X d_tr_missing_28 29 rfl 1 rfl ?_
      refine jj_callV0 (st := [.int (nI k)]) X d_tr_missing_29 32 rfl (c_ld_size l D cI cZ q A k0 (by omega)) g_tr_162 ⟨rfl, w_ld_size⟩ ⟨(Nat.le_of_ble_eq_true rfl), (Nat.le_of_ble_eq_true rfl)⟩ rfl 6 rfl rfl rfl (Nat.le_of_ble_eq_true rfl) ⟨rfl, rfl⟩ ⟨Nat.zero_le _, Nat.zero_le _⟩ (fun r u hu => ?_)
      obtain ⟨rfl, rfl⟩ := hu
      refine jj_topv (y := nI (E (k0 + 1) - E k0)) (hsz) ?_
      refine jj_icmp_ge X d_tr_missing_32 76 35 (by decide) rfl (fun c32 => ?_) (fun c32 => ?_)
      · have hkn : k = E (k0 + 1) - E k0 := Nat.le_antisymm hk (nI_leD c32 (by omega) (by omega))
        refine jj_iconst (v := 0) X d_tr_missing_76 77 rfl (by decide) ?_
        exact jj_iret X hr hlk d_tr_missing_77 (⟨by rw [hom, ← hf, hkn, Nat.sub_self]; rfl, rfl⟩)
      · have hkn : k < E (k0 + 1) - E k0 := nI_nleD c32 (by omega) (by omega)
        refine jj_aload_n X d_tr_missing_35 36 rfl 0 rfl ?_
        refine jj_get (v := .ref (q 6)) X d_tr_missing_36 39 rfl i_tr 4 f_tr_40 0 rfl rfl (by decide) rfl rfl ?_
        refine jj_iload_n X d_tr_missing_39 40 rfl 1 rfl ?_
        refine jj_iload X d_tr_missing_40 42 rfl 4 rfl ?_
        refine jj_callV0 (st := []) X d_tr_missing_42 45 rfl (c_ld_slipAt l D cI cZ q A k0 (nI k) (by omega) (enC_in hE hk0 (nI_pos (by omega)) (by rw [hsz]; exact nI_lt hkn (by omega)))) g_tr_165 ⟨rfl, w_ld_slipAt⟩ ⟨(Nat.le_of_ble_eq_true rfl), (Nat.le_of_ble_eq_true rfl)⟩ rfl 6 rfl rfl rfl (Nat.le_of_ble_eq_true rfl) ⟨rfl, rfl⟩ ⟨Nat.zero_le _, Nat.zero_le _⟩ (fun r u hu => ?_)
        obtain ⟨rfl, rfl⟩ := hu
        refine jj_istore (lv' := [(0, .ref (q 0)), (1, .int (nI (k0 + 1))), (2, .int i), (3, .int b0), (4, .int (nI k)), (5, .int (A 22 ((A 21 k0) + (nI k)).toNatClampNeg))]) X d_tr_missing_45 47 rfl (by decide) rfl rfl ?_
        refine jj_aload_n X d_tr_missing_47 48 rfl 0 rfl ?_
        refine jj_get (v := .ref (q 5)) X d_tr_missing_48 51 rfl i_tr 3 f_tr_33 0 rfl rfl (by decide) rfl rfl ?_
        refine jj_iload X d_tr_missing_51 53 rfl 5 rfl ?_
        refine jj_callV0 (st := []) X d_tr_missing_53 56 rfl (c_sl_isUnderWay l D cI cZ q A (A 22 ((A 21 k0) + (nI k)).toNatClampNeg) (hrg.2.2.1 _)) g_tr_168 ⟨rfl, w_sl_isUnderWay⟩ ⟨(Nat.le_of_ble_eq_true rfl), (Nat.le_of_ble_eq_true rfl)⟩ rfl 5 rfl rfl rfl (Nat.le_of_ble_eq_true rfl) ⟨rfl, rfl⟩ ⟨Nat.zero_le _, Nat.zero_le _⟩ (fun r u hu => ?_)
        obtain ⟨rfl, rfl⟩ := hu
        refine jj_if_eq X d_tr_missing_56 70 59 (by decide) rfl (fun c56 => ?_) (fun c56 => ?_)
        · have c56 := b2_f c56
          refine jj_iinc (v := nI (k + 1)) (lv' := [(0, .ref (q 0)), (1, .int (nI (k0 + 1))), (2, .int i), (3, .int b0), (4, .int (nI (k + 1))), (5, .int (A 22 ((A 21 k0) + (nI k)).toNatClampNeg))]) X d_tr_missing_70 73 rfl 4 rfl (ar_inc _) (by decide) rfl rfl ?_
          refine jj_goto X d_tr_missing_73 22 (by decide) ?_
          refine jj_lvs (lv' := [(0, .ref (q 0)), (1, .int (nI (k0 + 1))), (2, .int i), (3, .int b0), (4, .int (nI (k + 1)))]) (by simp) ?_
          exact ih22 ((k + 1, b0)) (⟨by simp only; omega, by simp only; rw [← hf, x_mis_s hkn]; simp [*]⟩) (by simp only; omega)
        · have c56 := b2_t c56
          refine jj_iload_n X d_tr_missing_59 60 rfl 3 rfl ?_
          refine jj_iload_n X d_tr_missing_60 61 rfl 2 rfl ?_
          refine jj_icmp_ne X d_tr_missing_61 67 64 (by decide) rfl (fun c61 => ?_) (fun c61 => ?_)
          · refine jj_iinc (v := b0 + 1) (lv' := [(0, .ref (q 0)), (1, .int (nI (k0 + 1))), (2, .int i), (3, .int (b0 + 1)), (4, .int (nI k)), (5, .int (A 22 ((A 21 k0) + (nI k)).toNatClampNeg))]) X d_tr_missing_67 70 rfl 3 rfl rfl (by decide) rfl rfl ?_
            refine jj_iinc (v := nI (k + 1)) (lv' := [(0, .ref (q 0)), (1, .int (nI (k0 + 1))), (2, .int i), (3, .int (b0 + 1)), (4, .int (nI (k + 1))), (5, .int (A 22 ((A 21 k0) + (nI k)).toNatClampNeg))]) X d_tr_missing_70 73 rfl 4 rfl (ar_inc _) (by decide) rfl rfl ?_
            refine jj_goto X d_tr_missing_73 22 (by decide) ?_
            refine jj_lvs (lv' := [(0, .ref (q 0)), (1, .int (nI (k0 + 1))), (2, .int i), (3, .int (b0 + 1)), (4, .int (nI (k + 1)))]) (by simp) ?_
            exact ih22 ((k + 1, b0 + 1)) (⟨by simp only; omega, by simp only; rw [← hf, x_mis_s hkn]; simp [*]⟩) (by simp only; omega)
          · refine jj_iload X d_tr_missing_64 66 rfl 5 rfl ?_
            exact jj_iret X hr hlk d_tr_missing_66 (⟨by rw [hom, ← hf, x_mis_s hkn]; simp [*], rfl⟩)
    · have c12 := Int32.not_le.mp c12
      refine jj_iconst (v := 0) X d_tr_missing_15 16 rfl (by decide) ?_
      exact jj_iret X hr hlk d_tr_missing_16 (⟨by simp [o_mis, nI_clamp (show k0 + 1 < 2 ^ 31 by omega), *], rfl⟩)
end
section
set_option maxRecDepth 100000 in
set_option maxHeartbeats 4000000 in
theorem c_tr_enqueue (l : Launch) (D : va_G) (cI cZ : ClassId) (q : Nat → Nat) (A : Rows) (n : Nat) (x : Int32) (hn : A 0 7 = nI n) (hle : n < 150) (hx : vp_in x 151) (hrg : rgC A) : mt_V l D cls_ [(cI, .int), (cZ, .boolean)] nst_ y_tr_enqueue (Cond.code y_tr_enqueue b_tr_enqueue 3 none :: gt_) (rmd 1) [.ref (q 0), .int x] (tw cI cZ q A) (fun u => u = tw cI cZ q (ua (ua A 0 (uz (A 0) 7 (nI (n + 1)))) 25 (x_enq A x n (A 25)))) := by
  refine mt_V_of (by decide) (Nat.le_of_ble_eq_true rfl) ?_
  intro p e s m below meth c AA X hr hlk hnm
  refine jj_lve (lv' := [(0, .ref (q 0)), (1, .int x)]) rfl ?_
  refine jj_aload_n X d_tr_enqueue_0 1 rfl 0 rfl ?_
  refine jj_get (v := .int (nI n)) X d_tr_enqueue_1 4 rfl i_tr 7 f_tr_55 0 rfl rfl (by decide) rfl (by rw [← hn]; rfl) ?_
  refine jj_istore_n (lv' := [(0, .ref (q 0)), (1, .int x), (2, .int (nI n))]) X d_tr_enqueue_4 5 rfl (by decide) rfl rfl ?_
  refine jj_loop (fun ((k, f) : Nat × (Nat → Int32)) => k ≤ n ∧ (∀ j, vp_in (f j) 151) ∧ x_enq A x k f = x_enq A x n (A 25)) (fun ((k, f) : Nat × (Nat → Int32)) => k) (fun ((k, f) : Nat × (Nat → Int32)) => [(0, .ref (q 0)), (1, .int x), (2, .int (nI k))]) (fun ((k, f) : Nat × (Nat → Int32)) => []) (fun ((k, f) : Nat × (Nat → Int32)) => tw cI cZ q ((ua A 25 (f)))) ((n, A 25)) (⟨Nat.le_refl _, hrg.2.2.2.1, rfl⟩) rfl rfl rfl ?_
  rintro ⟨k, f⟩ hI ih5
  try dsimp only at hI ih5 ⊢
  obtain ⟨hk, hfi, hf⟩ := hI
  have hrg : rgC (ua A 25 f) := ⟨hrg.1, hrg.2.1, hrg.2.2.1, hfi, hrg.2.2.2.2⟩
  refine jj_iload_n X d_tr_enqueue_5 6 rfl 2 rfl ?_
  refine jj_if_le X d_tr_enqueue_6 45 9 (by decide) rfl (fun c6 => ?_) (fun c6 => ?_)
  · have hk0 : k = 0 := by have := nI_leD (b := 0) c6 (by omega) (by omega); omega
    subst hk0
    have hfx : upd f 0 x = x_enq A x n (A 25) := by rw [← hf]; rfl
    refine jj_aload_n X d_tr_enqueue_45 46 rfl 0 rfl ?_
    refine jj_get (v := .ref (q 32)) X d_tr_enqueue_46 49 rfl i_tr 6 f_tr_51 0 rfl rfl (by decide) rfl rfl ?_
    refine jj_iload_n X d_tr_enqueue_49 50 rfl 2 rfl ?_
    refine jj_iload_n X d_tr_enqueue_50 51 rfl 1 rfl ?_
    refine jj_iast (ws' := tw cI cZ q ((ua A 25 (upd (f) 0 x)))) X d_tr_enqueue_51 52 rfl 32 0 rfl rfl (vp_in_nI (by omega) (by omega)) (by rw [nI_clamp (by omega)]; rfl) ?_
    refine jj_aload_n X d_tr_enqueue_52 53 rfl 0 rfl ?_
    refine jj_dup X d_tr_enqueue_53 54 rfl rfl ?_
    refine jj_get (v := .int (nI n)) X d_tr_enqueue_54 57 rfl i_tr 7 f_tr_55 0 rfl rfl (by decide) rfl (by rw [← hn]; rfl) ?_
    refine jj_iconst (v := 1) X d_tr_enqueue_57 58 rfl (by decide) ?_
    refine jj_iadd X d_tr_enqueue_58 59 rfl ?_
    refine jj_topv (y := nI (n + 1)) (nI_1 _) ?_
    refine jj_put (ty := .int) (ws' := tw cI cZ q ((ua (ua A 0 (uz (A 0) 7 (nI (n + 1)))) 25 (upd (f) 0 x)))) X d_tr_enqueue_59 62 rfl i_tr t_tr t_tr_ok n_tr 7 f_tr_55 0 rfl rfl (by decide) rfl rfl (by decide +kernel) rfl rfl (Nat.le_of_ble_eq_true rfl) rfl ?_
    exact jj_vret X hr hlk d_tr_enqueue_62 (by rw [hfx])
  · obtain ⟨k, rfl⟩ : ∃ i, k = i + 1 := ⟨k - 1, by have : k ≠ 0 := fun e9 => c6 (by rw [e9]; exact Int32.le_refl _); omega⟩
    refine jj_aload_n X d_tr_enqueue_9 10 rfl 0 rfl ?_
    refine jj_iload_n X d_tr_enqueue_10 11 rfl 1 rfl ?_
    refine jj_aload_n X d_tr_enqueue_11 12 rfl 0 rfl ?_
    refine jj_get (v := .ref (q 32)) X d_tr_enqueue_12 15 rfl i_tr 6 f_tr_51 0 rfl rfl (by decide) rfl rfl ?_
    refine jj_iload_n X d_tr_enqueue_15 16 rfl 2 rfl ?_
    refine jj_iconst (v := 1) X d_tr_enqueue_16 17 rfl (by decide) ?_
    refine jj_isub X d_tr_enqueue_17 18 rfl ?_
    refine jj_topv (y := nI k) (nI_pred _) ?_
    refine jj_iald (v := f k) X d_tr_enqueue_18 19 rfl 32 0 rfl rfl (vp_in_nI (by omega) (by omega)) (ar_cl (by omega)) ?_
    refine jj_callV0 (st := []) X d_tr_enqueue_19 22 rfl (c_tr_isBefore l D cI cZ q ((ua A 25 (f))) x (f k) hrg hx (hfi _)) g_tr_219 ⟨rfl, w_tr_isBefore⟩ ⟨(Nat.le_of_ble_eq_true rfl), (Nat.le_of_ble_eq_true rfl)⟩ rfl 0 rfl rfl rfl (Nat.le_of_ble_eq_true rfl) ⟨rfl, rfl⟩ ⟨Nat.zero_le _, Nat.zero_le _⟩ (fun r u hu => ?_)
    obtain ⟨rfl, rfl⟩ := hu
    refine jj_if_eq X d_tr_enqueue_22 45 25 (by decide) rfl (fun c22 => ?_) (fun c22 => ?_)
    · have hfx : upd f (k + 1) x = x_enq A x n (A 25) := by rw [← hf]; simp [x_enq, show bfI A x (f k) = 0 from c22]
      refine jj_aload_n X d_tr_enqueue_45 46 rfl 0 rfl ?_
      refine jj_get (v := .ref (q 32)) X d_tr_enqueue_46 49 rfl i_tr 6 f_tr_51 0 rfl rfl (by decide) rfl rfl ?_
      refine jj_iload_n X d_tr_enqueue_49 50 rfl 2 rfl ?_
      refine jj_iload_n X d_tr_enqueue_50 51 rfl 1 rfl ?_
      refine jj_iast (ws' := tw cI cZ q ((ua A 25 (upd (f) ((k + 1)) x)))) X d_tr_enqueue_51 52 rfl 32 0 rfl rfl (vp_in_nI (by omega) (by omega)) (by rw [nI_clamp (by omega)]; rfl) ?_
      refine jj_aload_n X d_tr_enqueue_52 53 rfl 0 rfl ?_
      refine jj_dup X d_tr_enqueue_53 54 rfl rfl ?_
      refine jj_get (v := .int (nI n)) X d_tr_enqueue_54 57 rfl i_tr 7 f_tr_55 0 rfl rfl (by decide) rfl (by rw [← hn]; rfl) ?_
      refine jj_iconst (v := 1) X d_tr_enqueue_57 58 rfl (by decide) ?_
      refine jj_iadd X d_tr_enqueue_58 59 rfl ?_
      refine jj_topv (y := nI (n + 1)) (nI_1 _) ?_
      refine jj_put (ty := .int) (ws' := tw cI cZ q ((ua (ua A 0 (uz (A 0) 7 (nI (n + 1)))) 25 (upd (f) ((k + 1)) x)))) X d_tr_enqueue_59 62 rfl i_tr t_tr t_tr_ok n_tr 7 f_tr_55 0 rfl rfl (by decide) rfl rfl (by decide +kernel) rfl rfl (Nat.le_of_ble_eq_true rfl) rfl ?_
      exact jj_vret X hr hlk d_tr_enqueue_62 (by rw [hfx])
    · refine jj_aload_n X d_tr_enqueue_25 26 rfl 0 rfl ?_
      refine jj_get (v := .ref (q 32)) X d_tr_enqueue_26 29 rfl i_tr 6 f_tr_51 0 rfl rfl (by decide) rfl rfl ?_
      refine jj_iload_n X d_tr_enqueue_29 30 rfl 2 rfl ?_
      refine jj_aload_n X d_tr_enqueue_30 31 rfl 0 rfl ?_
      refine jj_get (v := .ref (q 32)) X d_tr_enqueue_31 34 rfl i_tr 6 f_tr_51 0 rfl rfl (by decide) rfl rfl ?_
      refine jj_iload_n X d_tr_enqueue_34 35 rfl 2 rfl ?_
      refine jj_iconst (v := 1) X d_tr_enqueue_35 36 rfl (by decide) ?_
      refine jj_isub X d_tr_enqueue_36 37 rfl ?_
      refine jj_topv (y := nI k) (nI_pred _) ?_
      refine jj_iald (v := f k) X d_tr_enqueue_37 38 rfl 32 0 rfl rfl (vp_in_nI (by omega) (by omega)) (ar_cl (by omega)) ?_
      refine jj_iast (ws' := tw cI cZ q ((ua A 25 (upd (f) ((k + 1)) (f k))))) X d_tr_enqueue_38 39 rfl 32 0 rfl rfl (vp_in_nI (by omega) (by omega)) (by rw [nI_clamp (by omega)]; rfl) ?_
      refine jj_iinc (v := nI k) (lv' := [(0, .ref (q 0)), (1, .int x), (2, .int (nI k))]) X d_tr_enqueue_39 42 rfl 2 rfl (ar_dec k) (by decide) rfl rfl ?_
      refine jj_goto X d_tr_enqueue_42 5 (by decide) ?_
      exact ih5 ((k, upd f (k + 1) (f k))) (⟨by simp only; omega, up_in hfi (hfi k), by simp only; rw [← hf]; simp [x_enq, show ¬ bfI A x (f k) = 0 from c22]⟩) (by simp only; omega)
set_option maxRecDepth 100000 in
set_option maxHeartbeats 4000000 in
theorem c_tr_queueBin (l : Launch) (D : va_G) (cI cZ : ClassId) (q : Nat → Nat) (A : Rows) (nS : Nat) (a b : Int32) (hnS : A 0 4 = nI nS) (hlS : nS ≤ 150) (hrg : rgC A) : mt_V l D cls_ [(cI, .int), (cZ, .boolean)] nst_ y_tr_queueBin (Cond.code y_tr_queueBin b_tr_queueBin 4 none :: gt_) (rmd 2) [.ref (q 0), .int a, .int b] (tw cI cZ q A) (fun u => u = tw cI cZ q ((ua (ua A 0 (uz (A 0) 7 (nI (x_qu A (pBin A a b) nS 1 0 (A 25)).1))) 25 ((x_qu A (pBin A a b) nS 1 0 (A 25)).2)))) := by
  refine mt_V_of (by decide) (Nat.le_of_ble_eq_true rfl) ?_
  intro p e s m below meth c AA X hr hlk hnm
  refine jj_lve (lv' := [(0, .ref (q 0)), (1, .int a), (2, .int b)]) rfl ?_
  refine jj_aload_n X d_tr_queueBin_0 1 rfl 0 rfl ?_
  refine jj_iconst (v := 0) X d_tr_queueBin_1 2 rfl (by decide) ?_
  refine jj_put (ty := .int) (ws' := tw cI cZ q ((ua A 0 (uz (A 0) 7 0)))) X d_tr_queueBin_2 5 rfl i_tr t_tr t_tr_ok n_tr 7 f_tr_55 0 rfl rfl (by decide) rfl rfl (by decide +kernel) rfl rfl (Nat.le_of_ble_eq_true rfl) rfl ?_
  refine jj_iconst (v := 1) X d_tr_queueBin_5 6 rfl (by decide) ?_
  refine jj_istore_n (lv' := [(0, .ref (q 0)), (1, .int a), (2, .int b), (3, .int 1)]) X d_tr_queueBin_6 7 rfl (by decide) rfl rfl ?_
  refine jj_loop (fun ((j, n1, f) : Nat × Nat × (Nat → Int32)) => 1 ≤ j ∧ j ≤ nS + 1 ∧ n1 + 1 ≤ j ∧ (∀ i, vp_in (f i) 151) ∧ x_qu A (pBin A a b) (nS + 1 - j) j n1 f = x_qu A (pBin A a b) nS 1 0 (A 25)) (fun ((j, n1, f) : Nat × Nat × (Nat → Int32)) => nS + 1 - j) (fun ((j, n1, f) : Nat × Nat × (Nat → Int32)) => [(0, .ref (q 0)), (1, .int a), (2, .int b), (3, .int (nI j))]) (fun ((j, n1, f) : Nat × Nat × (Nat → Int32)) => []) (fun ((j, n1, f) : Nat × Nat × (Nat → Int32)) => tw cI cZ q ((ua (ua A 0 (uz (A 0) 7 (nI n1))) 25 (f)))) ((1, 0, A 25)) (⟨Nat.le_refl _, by simp, by simp, hrg.2.2.2.1, rfl⟩) rfl rfl rfl ?_
  rintro ⟨j, n1, f⟩ hI ih7
  try dsimp only at hI ih7 ⊢
  obtain ⟨hj1, hj, hnj, hfi, hf⟩ := hI
  refine jj_iload_n X d_tr_queueBin_7 8 rfl 3 rfl ?_
  refine jj_aload_n X d_tr_queueBin_8 9 rfl 0 rfl ?_
  refine jj_get (v := .ref (q 5)) X d_tr_queueBin_9 12 rfl i_tr 3 f_tr_33 0 rfl rfl (by decide) rfl rfl ?_
  refine jj_get (v := .int (nI nS)) X d_tr_queueBin_12 15 rfl i_sl 6 f_tr_106 5 rfl rfl (by decide) rfl (by rw [← hnS]; rfl) ?_
  refine jj_icmp_gt X d_tr_queueBin_15 62 18 (by decide) rfl (fun c15 => ?_) (fun c15 => ?_)
  · have hjn : j = nS + 1 := by have := nI_ltD c15 (by omega) (by omega); omega
    subst hjn
    exact jj_vret X hr hlk d_tr_queueBin_62 (by rw [← hf, Nat.sub_self]; rfl)
  · have hjn : j ≤ nS := nI_nltD c15 (by omega) (by omega)
    refine jj_aload_n X d_tr_queueBin_18 19 rfl 0 rfl ?_
    refine jj_get (v := .ref (q 5)) X d_tr_queueBin_19 22 rfl i_tr 3 f_tr_33 0 rfl rfl (by decide) rfl rfl ?_
    refine jj_get (v := .ref (q 24)) X d_tr_queueBin_22 25 rfl i_sl 2 f_tr_121 5 rfl rfl (by decide) rfl rfl ?_
    refine jj_iload_n X d_tr_queueBin_25 26 rfl 3 rfl ?_
    refine jj_iald (v := A 17 j) X d_tr_queueBin_26 27 rfl 24 0 rfl rfl (vp_in_nI (by omega) (by omega)) (ar_cl (by omega)) ?_
    refine jj_if_ne X d_tr_queueBin_27 56 30 (by decide) rfl (fun c27 => ?_) (fun c27 => ?_)
    · refine jj_iinc (v := nI (j + 1)) (lv' := [(0, .ref (q 0)), (1, .int a), (2, .int b), (3, .int (nI (j + 1)))]) X d_tr_queueBin_56 59 rfl 3 rfl (ar_inc _) (by decide) rfl rfl ?_
      refine jj_goto X d_tr_queueBin_59 7 (by decide) ?_
      exact ih7 ((j + 1, n1, f)) (⟨by simp only; omega, by simp only; omega, by simp only; omega, hfi, by simp only; rw [← hf, x_qu_s hjn]; simp [pBin, *]⟩) (by simp only; omega)
    · refine jj_aload_n X d_tr_queueBin_30 31 rfl 0 rfl ?_
      refine jj_get (v := .ref (q 2)) X d_tr_queueBin_31 34 rfl i_tr 1 f_tr_19 0 rfl rfl (by decide) rfl rfl ?_
      refine jj_aload_n X d_tr_queueBin_34 35 rfl 0 rfl ?_
      refine jj_get (v := .ref (q 5)) X d_tr_queueBin_35 38 rfl i_tr 3 f_tr_33 0 rfl rfl (by decide) rfl rfl ?_
      refine jj_get (v := .ref (q 23)) X d_tr_queueBin_38 41 rfl i_sl 1 f_tr_174 5 rfl rfl (by decide) rfl rfl ?_
      refine jj_iload_n X d_tr_queueBin_41 42 rfl 3 rfl ?_
      refine jj_iald (v := A 16 j) X d_tr_queueBin_42 43 rfl 23 0 rfl rfl (vp_in_nI (by omega) (by omega)) (ar_cl (by omega)) ?_
      refine jj_iload_n X d_tr_queueBin_43 44 rfl 1 rfl ?_
      refine jj_iload_n X d_tr_queueBin_44 45 rfl 2 rfl ?_
      refine jj_callV0 (st := []) X d_tr_queueBin_45 48 rfl (c_ro_joins l D cI cZ q ((ua (ua A 0 (uz (A 0) 7 (nI n1))) 25 (f))) (A 16 j) a b (hrg.2.1 _)) g_tr_189 ⟨rfl, w_ro_joins⟩ ⟨(Nat.le_of_ble_eq_true rfl), (Nat.le_of_ble_eq_true rfl)⟩ rfl 2 rfl rfl rfl (Nat.le_of_ble_eq_true rfl) ⟨rfl, rfl⟩ ⟨Nat.zero_le _, Nat.zero_le _⟩ (fun r u hu => ?_)
      obtain ⟨rfl, rfl⟩ := hu
      refine jj_if_eq X d_tr_queueBin_48 56 51 (by decide) rfl (fun c48 => ?_) (fun c48 => ?_)
      · have c48 := b2_f c48
        have c48 : joC A (A 16 j) a b = false := c48
        refine jj_iinc (v := nI (j + 1)) (lv' := [(0, .ref (q 0)), (1, .int a), (2, .int b), (3, .int (nI (j + 1)))]) X d_tr_queueBin_56 59 rfl 3 rfl (ar_inc _) (by decide) rfl rfl ?_
        refine jj_goto X d_tr_queueBin_59 7 (by decide) ?_
        exact ih7 ((j + 1, n1, f)) (⟨by simp only; omega, by simp only; omega, by simp only; omega, hfi, by simp only; rw [← hf, x_qu_s hjn]; simp [pBin, *]⟩) (by simp only; omega)
      · have c48 := b2_t c48
        have c48 : joC A (A 16 j) a b = true := c48
        refine jj_aload_n X d_tr_queueBin_51 52 rfl 0 rfl ?_
        refine jj_iload_n X d_tr_queueBin_52 53 rfl 3 rfl ?_
        refine jj_callVv0 (st := []) X d_tr_queueBin_53 56 rfl (c_tr_enqueue l D cI cZ q ((ua (ua A 0 (uz (A 0) 7 (nI n1))) 25 (f))) n1 (nI j) rfl (by omega) (vp_in_nI (by omega) (by omega)) (rgC_25 hrg hfi)) g_tr_215 ⟨rfl, w_tr_enqueue⟩ ⟨(Nat.le_of_ble_eq_true rfl), (Nat.le_of_ble_eq_true rfl)⟩ rfl 0 rfl rfl rfl (Nat.le_of_ble_eq_true rfl) ⟨rfl, rfl⟩ ⟨Nat.zero_le _, Nat.zero_le _⟩ (fun u hu => ?_)
        obtain rfl := hu
        refine jj_wse (ws' := tw cI cZ q ((ua (ua A 0 (uz (A 0) 7 (nI (n1 + 1)))) 25 (x_enq A (nI j) n1 f)))) (congrArg (fun z => tw cI cZ q (ua (ua A 0 (uz (A 0) 7 (nI (n1 + 1)))) 25 z)) (x_enq_c (A := (ua (ua A 0 (uz (A 0) 7 (nI n1))) 25 (f))) (B := A) (fun _ _ => rfl) (nI j) n1 f)) ?_
        refine jj_iinc (v := nI (j + 1)) (lv' := [(0, .ref (q 0)), (1, .int a), (2, .int b), (3, .int (nI (j + 1)))]) X d_tr_queueBin_56 59 rfl 3 rfl (ar_inc _) (by decide) rfl rfl ?_
        refine jj_goto X d_tr_queueBin_59 7 (by decide) ?_
        exact ih7 ((j + 1, n1 + 1, x_enq A (nI j) n1 f)) (⟨by simp only; omega, by simp only; omega, by simp only; omega, x_enq_in (vp_in_nI (by omega) (by omega)) n1 f hfi, by simp only; rw [← hf, x_qu_s hjn]; simp [pBin, *]⟩) (by simp only; omega)
set_option maxRecDepth 100000 in
set_option maxHeartbeats 4000000 in
theorem c_tr_queueDue (l : Launch) (D : va_G) (cI cZ : ClassId) (q : Nat → Nat) (A : Rows) (nS : Nat) (x d : Int32) (hnS : A 0 4 = nI nS) (hlS : nS ≤ 150) (hrg : rgC A) : mt_V l D cls_ [(cI, .int), (cZ, .boolean)] nst_ y_tr_queueDue (Cond.code y_tr_queueDue b_tr_queueDue 5 none :: gt_) (rmd 2) [.ref (q 0), .int x, .int d] (tw cI cZ q A) (fun u => u = tw cI cZ q ((ua (ua A 0 (uz (A 0) 7 (nI (x_qu A (pDue A x d) nS 1 0 (A 25)).1))) 25 ((x_qu A (pDue A x d) nS 1 0 (A 25)).2)))) := by
  refine mt_V_of (by decide) (Nat.le_of_ble_eq_true rfl) ?_
  intro p e s m below meth c AA X hr hlk hnm
  refine jj_lve (lv' := [(0, .ref (q 0)), (1, .int x), (2, .int d)]) rfl ?_
  refine jj_aload_n X d_tr_queueDue_0 1 rfl 0 rfl ?_
  refine jj_iconst (v := 0) X d_tr_queueDue_1 2 rfl (by decide) ?_
  refine jj_put (ty := .int) (ws' := tw cI cZ q ((ua A 0 (uz (A 0) 7 0)))) X d_tr_queueDue_2 5 rfl i_tr t_tr t_tr_ok n_tr 7 f_tr_55 0 rfl rfl (by decide) rfl rfl (by decide +kernel) rfl rfl (Nat.le_of_ble_eq_true rfl) rfl ?_
  refine jj_iconst (v := 1) X d_tr_queueDue_5 6 rfl (by decide) ?_
  refine jj_istore_n (lv' := [(0, .ref (q 0)), (1, .int x), (2, .int d), (3, .int 1)]) X d_tr_queueDue_6 7 rfl (by decide) rfl rfl ?_
  refine jj_loop (fun ((j, n1, f) : Nat × Nat × (Nat → Int32)) => 1 ≤ j ∧ j ≤ nS + 1 ∧ n1 + 1 ≤ j ∧ (∀ i, vp_in (f i) 151) ∧ x_qu A (pDue A x d) (nS + 1 - j) j n1 f = x_qu A (pDue A x d) nS 1 0 (A 25)) (fun ((j, n1, f) : Nat × Nat × (Nat → Int32)) => nS + 1 - j) (fun ((j, n1, f) : Nat × Nat × (Nat → Int32)) => [(0, .ref (q 0)), (1, .int x), (2, .int d), (3, .int (nI j))]) (fun ((j, n1, f) : Nat × Nat × (Nat → Int32)) => []) (fun ((j, n1, f) : Nat × Nat × (Nat → Int32)) => tw cI cZ q ((ua (ua A 0 (uz (A 0) 7 (nI n1))) 25 (f)))) ((1, 0, A 25)) (⟨Nat.le_refl _, by simp, by simp, hrg.2.2.2.1, rfl⟩) rfl rfl rfl ?_
  rintro ⟨j, n1, f⟩ hI ih7
  try dsimp only at hI ih7 ⊢
  obtain ⟨hj1, hj, hnj, hfi, hf⟩ := hI
  refine jj_iload_n X d_tr_queueDue_7 8 rfl 3 rfl ?_
  refine jj_aload_n X d_tr_queueDue_8 9 rfl 0 rfl ?_
  refine jj_get (v := .ref (q 5)) X d_tr_queueDue_9 12 rfl i_tr 3 f_tr_33 0 rfl rfl (by decide) rfl rfl ?_
  refine jj_get (v := .int (nI nS)) X d_tr_queueDue_12 15 rfl i_sl 6 f_tr_106 5 rfl rfl (by decide) rfl (by rw [← hnS]; rfl) ?_
  refine jj_icmp_gt X d_tr_queueDue_15 79 18 (by decide) rfl (fun c15 => ?_) (fun c15 => ?_)
  · have hjn : j = nS + 1 := by have := nI_ltD c15 (by omega) (by omega); omega
    subst hjn
    exact jj_vret X hr hlk d_tr_queueDue_79 (by rw [← hf, Nat.sub_self]; rfl)
  · have hjn : j ≤ nS := nI_nltD c15 (by omega) (by omega)
    refine jj_aload_n X d_tr_queueDue_18 19 rfl 0 rfl ?_
    refine jj_get (v := .ref (q 5)) X d_tr_queueDue_19 22 rfl i_tr 3 f_tr_33 0 rfl rfl (by decide) rfl rfl ?_
    refine jj_get (v := .ref (q 24)) X d_tr_queueDue_22 25 rfl i_sl 2 f_tr_121 5 rfl rfl (by decide) rfl rfl ?_
    refine jj_iload_n X d_tr_queueDue_25 26 rfl 3 rfl ?_
    refine jj_iald (v := A 17 j) X d_tr_queueDue_26 27 rfl 24 0 rfl rfl (vp_in_nI (by omega) (by omega)) (ar_cl (by omega)) ?_
    refine jj_if_ne X d_tr_queueDue_27 47 30 (by decide) rfl (fun c27 => ?_) (fun c27 => ?_)
    · refine jj_iconst (v := 0) X d_tr_queueDue_47 48 rfl (by decide) ?_
      refine jj_istore (lv' := [(0, .ref (q 0)), (1, .int x), (2, .int d), (3, .int (nI j)), (4, .int 0)]) X d_tr_queueDue_48 50 rfl (by decide) rfl rfl ?_
      refine jj_iload X d_tr_queueDue_50 52 rfl 4 rfl ?_
      refine jj_if_eq X d_tr_queueDue_52 73 55 (by decide) rfl (fun c52 => ?_) (fun c52 => ?_)
      · refine jj_iinc (v := nI (j + 1)) (lv' := [(0, .ref (q 0)), (1, .int x), (2, .int d), (3, .int (nI (j + 1))), (4, .int 0)]) X d_tr_queueDue_73 76 rfl 3 rfl (ar_inc _) (by decide) rfl rfl ?_
        refine jj_goto X d_tr_queueDue_76 7 (by decide) ?_
        refine jj_lvs (lv' := [(0, .ref (q 0)), (1, .int x), (2, .int d), (3, .int (nI (j + 1)))]) (by simp) ?_
        exact ih7 ((j + 1, n1, f)) (⟨by simp only; omega, by simp only; omega, by simp only; omega, hfi, by simp only; rw [← hf, x_qu_s hjn]; simp [pDue, *]⟩) (by simp only; omega)
      · exact absurd c52 (by decide)
    · refine jj_aload_n X d_tr_queueDue_30 31 rfl 0 rfl ?_
      refine jj_get (v := .ref (q 5)) X d_tr_queueDue_31 34 rfl i_tr 3 f_tr_33 0 rfl rfl (by decide) rfl rfl ?_
      refine jj_get (v := .ref (q 23)) X d_tr_queueDue_34 37 rfl i_sl 1 f_tr_174 5 rfl rfl (by decide) rfl rfl ?_
      refine jj_iload_n X d_tr_queueDue_37 38 rfl 3 rfl ?_
      refine jj_iald (v := A 16 j) X d_tr_queueDue_38 39 rfl 23 0 rfl rfl (vp_in_nI (by omega) (by omega)) (ar_cl (by omega)) ?_
      refine jj_iload_n X d_tr_queueDue_39 40 rfl 1 rfl ?_
      refine jj_icmp_ne X d_tr_queueDue_40 47 43 (by decide) rfl (fun c40 => ?_) (fun c40 => ?_)
      · refine jj_iconst (v := 0) X d_tr_queueDue_47 48 rfl (by decide) ?_
        refine jj_istore (lv' := [(0, .ref (q 0)), (1, .int x), (2, .int d), (3, .int (nI j)), (4, .int 0)]) X d_tr_queueDue_48 50 rfl (by decide) rfl rfl ?_
        refine jj_iload X d_tr_queueDue_50 52 rfl 4 rfl ?_
        refine jj_if_eq X d_tr_queueDue_52 73 55 (by decide) rfl (fun c52 => ?_) (fun c52 => ?_)
        · refine jj_iinc (v := nI (j + 1)) (lv' := [(0, .ref (q 0)), (1, .int x), (2, .int d), (3, .int (nI (j + 1))), (4, .int 0)]) X d_tr_queueDue_73 76 rfl 3 rfl (ar_inc _) (by decide) rfl rfl ?_
          refine jj_goto X d_tr_queueDue_76 7 (by decide) ?_
          refine jj_lvs (lv' := [(0, .ref (q 0)), (1, .int x), (2, .int d), (3, .int (nI (j + 1)))]) (by simp) ?_
          exact ih7 ((j + 1, n1, f)) (⟨by simp only; omega, by simp only; omega, by simp only; omega, hfi, by simp only; rw [← hf, x_qu_s hjn]; simp [pDue, *]⟩) (by simp only; omega)
        · exact absurd c52 (by decide)
      · refine jj_iconst (v := 1) X d_tr_queueDue_43 44 rfl (by decide) ?_
        refine jj_goto X d_tr_queueDue_44 48 (by decide) ?_
        refine jj_istore (lv' := [(0, .ref (q 0)), (1, .int x), (2, .int d), (3, .int (nI j)), (4, .int 1)]) X d_tr_queueDue_48 50 rfl (by decide) rfl rfl ?_
        refine jj_iload X d_tr_queueDue_50 52 rfl 4 rfl ?_
        refine jj_if_eq X d_tr_queueDue_52 73 55 (by decide) rfl (fun c52 => ?_) (fun c52 => ?_)
        · exact absurd c52 (by decide)
        · refine jj_aload_n X d_tr_queueDue_55 56 rfl 0 rfl ?_
          refine jj_get (v := .ref (q 5)) X d_tr_queueDue_56 59 rfl i_tr 3 f_tr_33 0 rfl rfl (by decide) rfl rfl ?_
          refine jj_get (v := .ref (q 26)) X d_tr_queueDue_59 62 rfl i_sl 4 f_tr_171 5 rfl rfl (by decide) rfl rfl ?_
          refine jj_iload_n X d_tr_queueDue_62 63 rfl 3 rfl ?_
          refine jj_iald (v := A 19 j) X d_tr_queueDue_63 64 rfl 26 0 rfl rfl (vp_in_nI (by omega) (by omega)) (ar_cl (by omega)) ?_
          refine jj_iload_n X d_tr_queueDue_64 65 rfl 2 rfl ?_
          refine jj_icmp_gt X d_tr_queueDue_65 73 68 (by decide) rfl (fun c65 => ?_) (fun c65 => ?_)
          · have c65 := Int32.not_le.mpr c65
            refine jj_iinc (v := nI (j + 1)) (lv' := [(0, .ref (q 0)), (1, .int x), (2, .int d), (3, .int (nI (j + 1))), (4, .int 1)]) X d_tr_queueDue_73 76 rfl 3 rfl (ar_inc _) (by decide) rfl rfl ?_
            refine jj_goto X d_tr_queueDue_76 7 (by decide) ?_
            refine jj_lvs (lv' := [(0, .ref (q 0)), (1, .int x), (2, .int d), (3, .int (nI (j + 1)))]) (by simp) ?_
            exact ih7 ((j + 1, n1, f)) (⟨by simp only; omega, by simp only; omega, by simp only; omega, hfi, by simp only; rw [← hf, x_qu_s hjn]; simp [pDue, *]⟩) (by simp only; omega)
          · have c65 := Int32.not_lt.mp c65
            refine jj_aload_n X d_tr_queueDue_68 69 rfl 0 rfl ?_
            refine jj_iload_n X d_tr_queueDue_69 70 rfl 3 rfl ?_
            refine jj_callVv0 (st := []) X d_tr_queueDue_70 73 rfl (c_tr_enqueue l D cI cZ q ((ua (ua A 0 (uz (A 0) 7 (nI n1))) 25 (f))) n1 (nI j) rfl (by omega) (vp_in_nI (by omega) (by omega)) (rgC_25 hrg hfi)) g_tr_215 ⟨rfl, w_tr_enqueue⟩ ⟨(Nat.le_of_ble_eq_true rfl), (Nat.le_of_ble_eq_true rfl)⟩ rfl 0 rfl rfl rfl (Nat.le_of_ble_eq_true rfl) ⟨rfl, rfl⟩ ⟨Nat.zero_le _, Nat.zero_le _⟩ (fun u hu => ?_)
            obtain rfl := hu
            refine jj_wse (ws' := tw cI cZ q ((ua (ua A 0 (uz (A 0) 7 (nI (n1 + 1)))) 25 (x_enq A (nI j) n1 f)))) (congrArg (fun z => tw cI cZ q (ua (ua A 0 (uz (A 0) 7 (nI (n1 + 1)))) 25 z)) (x_enq_c (A := (ua (ua A 0 (uz (A 0) 7 (nI n1))) 25 (f))) (B := A) (fun _ _ => rfl) (nI j) n1 f)) ?_
            refine jj_iinc (v := nI (j + 1)) (lv' := [(0, .ref (q 0)), (1, .int x), (2, .int d), (3, .int (nI (j + 1))), (4, .int 1)]) X d_tr_queueDue_73 76 rfl 3 rfl (ar_inc _) (by decide) rfl rfl ?_
            refine jj_goto X d_tr_queueDue_76 7 (by decide) ?_
            refine jj_lvs (lv' := [(0, .ref (q 0)), (1, .int x), (2, .int d), (3, .int (nI (j + 1)))]) (by simp) ?_
            exact ih7 ((j + 1, n1 + 1, x_enq A (nI j) n1 f)) (⟨by simp only; omega, by simp only; omega, by simp only; omega, x_enq_in (vp_in_nI (by omega) (by omega)) n1 f hfi, by simp only; rw [← hf, x_qu_s hjn]; simp [pDue, *]⟩) (by simp only; omega)
set_option maxRecDepth 100000 in
set_option maxHeartbeats 4000000 in
theorem c_tr_bin (l : Launch) (D : va_G) (cI cZ : ClassId) (q : Nat → Nat) (A : Rows) (nS : Nat) (a b i : Int32) (hnS : A 0 4 = nI nS) (hlS : nS ≤ 150) (hrg : rgC A) : mt_I l D cls_ [(cI, .int), (cZ, .boolean)] nst_ y_tr_bin (Cond.code y_tr_bin b_tr_bin 4 (some .int) :: gt_) (rmd 3) [.ref (q 0), .int a, .int b, .int i] (tw cI cZ q A) (fun r u => r = (if (!decide (i < 0) && !decide (nI (x_qu A (pBin A a b) nS 1 0 (A 25)).1 ≤ i)) = true then (x_qu A (pBin A a b) nS 1 0 (A 25)).2 i.toNatClampNeg else 0) ∧ u = tw cI cZ q ((ua (ua A 0 (uz (A 0) 7 (nI (x_qu A (pBin A a b) nS 1 0 (A 25)).1))) 25 ((x_qu A (pBin A a b) nS 1 0 (A 25)).2)))) := by
  refine mt_I_of (by decide) (Nat.le_of_ble_eq_true rfl) ?_
  intro p e s m below meth c AA X hr hlk
  refine jj_lve (lv' := [(0, .ref (q 0)), (1, .int a), (2, .int b), (3, .int i)]) rfl ?_
  have hqn := x_qu_n (A := A) (P := pBin A a b) nS 1 0 (A 25)
  refine jj_aload_n X d_tr_bin_0 1 rfl 0 rfl ?_
  refine jj_iload_n X d_tr_bin_1 2 rfl 1 rfl ?_
  refine jj_iload_n X d_tr_bin_2 3 rfl 2 rfl ?_
  refine jj_callVv0 (st := []) X d_tr_bin_3 6 rfl (c_tr_queueBin l D cI cZ q A nS a b hnS hlS hrg) g_tr_127 ⟨rfl, w_tr_queueBin⟩ ⟨(Nat.le_of_ble_eq_true rfl), (Nat.le_of_ble_eq_true rfl)⟩ rfl 0 rfl rfl rfl (Nat.le_of_ble_eq_true rfl) ⟨rfl, rfl⟩ ⟨Nat.zero_le _, Nat.zero_le _⟩ (fun u hu => ?_)
  obtain rfl := hu
  refine jj_iload_n X d_tr_bin_6 7 rfl 3 rfl ?_
  refine jj_if_lt X d_tr_bin_7 27 10 (by decide) rfl (fun c7 => ?_) (fun c7 => ?_)
  · refine jj_iconst (v := 0) X d_tr_bin_27 28 rfl (by decide) ?_
    exact jj_iret X hr hlk d_tr_bin_28 (⟨by simp [*], rfl⟩)
  · refine jj_iload_n X d_tr_bin_10 11 rfl 3 rfl ?_
    refine jj_aload_n X d_tr_bin_11 12 rfl 0 rfl ?_
    refine jj_get (v := .int (nI (x_qu A (pBin A a b) nS 1 0 (A 25)).1)) X d_tr_bin_12 15 rfl i_tr 7 f_tr_55 0 rfl rfl (by decide) rfl rfl ?_
    refine jj_icmp_ge X d_tr_bin_15 27 18 (by decide) rfl (fun c15 => ?_) (fun c15 => ?_)
    · refine jj_iconst (v := 0) X d_tr_bin_27 28 rfl (by decide) ?_
      exact jj_iret X hr hlk d_tr_bin_28 (⟨by simp [*], rfl⟩)
    · have hi : vp_in i 150 := hN_in (n := nI (x_qu A (pBin A a b) nS 1 0 (A 25)).1) (by simp [hN, *]) (by rw [nI_toInt (by omega)]; omega)
      refine jj_aload_n X d_tr_bin_18 19 rfl 0 rfl ?_
      refine jj_get (v := .ref (q 32)) X d_tr_bin_19 22 rfl i_tr 6 f_tr_51 0 rfl rfl (by decide) rfl rfl ?_
      refine jj_iload_n X d_tr_bin_22 23 rfl 3 rfl ?_
      refine jj_iald (v := ((x_qu A (pBin A a b) nS 1 0 (A 25)).2) i.toNatClampNeg) X d_tr_bin_23 24 rfl 32 0 rfl rfl (by assumption) (rfl) ?_
      refine jj_goto X d_tr_bin_24 28 (by decide) ?_
      exact jj_iret X hr hlk d_tr_bin_28 (⟨by simp [*], rfl⟩)
set_option maxRecDepth 100000 in
set_option maxHeartbeats 4000000 in
theorem c_tr_tellQueue (l : Launch) (D : va_G) (cI cZ : ClassId) (q : Nat → Nat) (A : Rows) (n k1 nT : Nat) (w : Int32) (hn : A 0 7 = nI n) (hle : n ≤ 150) (hk1 : k1 ≤ n) (hnT : A 0 6 = nI nT) (hlT : nT ≤ 100) : mt_V l D cls_ [(cI, .int), (cZ, .boolean)] nst_ y_tr_tellQueue (Cond.code y_tr_tellQueue b_tr_tellQueue 4 none :: gt_) (rmd 1) [.ref (q 0), .int (nI k1), .int w] (tw cI cZ q A) (fun u => u = tw cI cZ q ((ua (ua (ua A 0 (uz (A 0) 6 (nI (x_te w (A 25) (n - k1) k1 nT (A 23) (A 24)).1))) 23 ((x_te w (A 25) (n - k1) k1 nT (A 23) (A 24)).2.1)) 24 ((x_te w (A 25) (n - k1) k1 nT (A 23) (A 24)).2.2)))) := by
  refine mt_V_of (by decide) (Nat.le_of_ble_eq_true rfl) ?_
  intro p e s m below meth c AA X hr hlk hnm
  refine jj_lve (lv' := [(0, .ref (q 0)), (1, .int (nI k1)), (2, .int w)]) rfl ?_
  refine jj_iload_n X d_tr_tellQueue_0 1 rfl 1 rfl ?_
  refine jj_istore_n (lv' := [(0, .ref (q 0)), (1, .int (nI k1)), (2, .int w), (3, .int (nI k1))]) X d_tr_tellQueue_1 2 rfl (by decide) rfl rfl ?_
  refine jj_loop (fun ((k, n1, g, h) : Nat × Nat × (Nat → Int32) × (Nat → Int32)) => k ≤ n ∧ n1 ≤ 100 ∧ x_te w (A 25) (n - k) k n1 g h = (x_te w (A 25) (n - k1) k1 nT (A 23) (A 24))) (fun ((k, n1, g, h) : Nat × Nat × (Nat → Int32) × (Nat → Int32)) => n - k) (fun ((k, n1, g, h) : Nat × Nat × (Nat → Int32) × (Nat → Int32)) => [(0, .ref (q 0)), (1, .int (nI k1)), (2, .int w), (3, .int (nI k))]) (fun ((k, n1, g, h) : Nat × Nat × (Nat → Int32) × (Nat → Int32)) => []) (fun ((k, n1, g, h) : Nat × Nat × (Nat → Int32) × (Nat → Int32)) => tw cI cZ q ((ua (ua (ua A 0 (uz (A 0) 6 (nI n1))) 23 (g)) 24 (h)))) ((k1, nT, A 23, A 24)) (⟨hk1, hlT, rfl⟩) rfl rfl (by simp only; rw [← hnT]; rfl) ?_
  rintro ⟨k, n1, g, h⟩ hI ih2
  try dsimp only at hI ih2 ⊢
  obtain ⟨hk, hn1, hf⟩ := hI
  refine jj_iload_n X d_tr_tellQueue_2 3 rfl 3 rfl ?_
  refine jj_aload_n X d_tr_tellQueue_3 4 rfl 0 rfl ?_
  refine jj_get (v := .int (nI n)) X d_tr_tellQueue_4 7 rfl i_tr 7 f_tr_55 0 rfl rfl (by decide) rfl (by rw [← hn]; rfl) ?_
  refine jj_icmp_ge X d_tr_tellQueue_7 30 10 (by decide) rfl (fun c7 => ?_) (fun c7 => ?_)
  · have hkn : k = n := Nat.le_antisymm hk (nI_leD c7 (by omega) (by omega))
    exact jj_vret X hr hlk d_tr_tellQueue_30 (by rw [← hf, hkn, Nat.sub_self]; rfl)
  · have hkn : k < n := nI_nleD c7 (by omega) (by omega)
    refine jj_aload_n X d_tr_tellQueue_10 11 rfl 0 rfl ?_
    refine jj_get (v := .ref (q 7)) X d_tr_tellQueue_11 14 rfl i_tr 5 f_tr_47 0 rfl rfl (by decide) rfl rfl ?_
    refine jj_iload_n X d_tr_tellQueue_14 15 rfl 2 rfl ?_
    refine jj_aload_n X d_tr_tellQueue_15 16 rfl 0 rfl ?_
    refine jj_get (v := .ref (q 32)) X d_tr_tellQueue_16 19 rfl i_tr 6 f_tr_51 0 rfl rfl (by decide) rfl rfl ?_
    refine jj_iload_n X d_tr_tellQueue_19 20 rfl 3 rfl ?_
    refine jj_iald (v := A 25 k) X d_tr_tellQueue_20 21 rfl 32 0 rfl rfl (vp_in_nI (by omega) (by omega)) (ar_cl (by omega)) ?_
    refine jj_callVv0 (st := []) X d_tr_tellQueue_21 24 rfl (c_te_add l D cI cZ q ((ua (ua (ua A 0 (uz (A 0) 6 (nI n1))) 23 (g)) 24 (h))) n1 w (A 25 k) rfl (by omega)) g_tr_225 ⟨rfl, w_te_add⟩ ⟨(Nat.le_of_ble_eq_true rfl), (Nat.le_of_ble_eq_true rfl)⟩ rfl 7 rfl rfl rfl (Nat.le_of_ble_eq_true rfl) ⟨rfl, rfl⟩ ⟨Nat.zero_le _, Nat.zero_le _⟩ (fun u hu => ?_)
    obtain rfl := hu
    refine jj_wse (ws' := tw cI cZ q ((ua (ua (ua A 0 (uz (A 0) 6 (nI (teN n1)))) 23 (teG n1 w g)) 24 (teG n1 (A 25 k) h)))) (by unfold teN teG; split <;> rfl) ?_
    refine jj_iinc (v := nI (k + 1)) (lv' := [(0, .ref (q 0)), (1, .int (nI k1)), (2, .int w), (3, .int (nI (k + 1)))]) X d_tr_tellQueue_24 27 rfl 3 rfl (ar_inc _) (by decide) rfl rfl ?_
    refine jj_goto X d_tr_tellQueue_27 2 (by decide) ?_
    exact ih2 ((k + 1, teN n1, teG n1 w g, teG n1 (A 25 k) h)) (⟨by simp only; omega, teN_le hn1, by simp only; rw [← hf, x_te_s hkn]⟩) (by simp only; omega)
set_option maxRecDepth 100000 in
set_option maxHeartbeats 4000000 in
theorem c_tr_takeFromQueue (l : Launch) (D : va_G) (cI cZ : ClassId) (q : Nat → Nat) (A : Rows) (nL m0 e0 : Nat) (d : Int32) (hnL : A 0 5 = nI nL) (hlL : nL ≤ 60) (he : A 21 nL = nI e0) (hm : m0 ≤ 150) (hem : e0 + m0 ≤ 150) (hrg : rgC A) : mt_V l D cls_ [(cI, .int), (cZ, .boolean)] nst_ y_tr_takeFromQueue (Cond.code y_tr_takeFromQueue b_tr_takeFromQueue 5 none :: gt_) (rmd 1) [.ref (q 0), .int (nI m0), .int d] (tw cI cZ q A) (fun u => u = tw cI cZ q ((ua (ua (ua (ua A 17 ((x_ta d (A 25) m0 0 e0 (A 17) (A 19) (A 22)).2.1)) 19 ((x_ta d (A 25) m0 0 e0 (A 17) (A 19) (A 22)).2.2.1)) 21 (upd (A 21) nL (nI (x_ta d (A 25) m0 0 e0 (A 17) (A 19) (A 22)).1))) 22 ((x_ta d (A 25) m0 0 e0 (A 17) (A 19) (A 22)).2.2.2)))) := by
  refine mt_V_of (by decide) (Nat.le_of_ble_eq_true rfl) ?_
  intro p e s m below meth c AA X hr hlk hnm
  refine jj_lve (lv' := [(0, .ref (q 0)), (1, .int (nI m0)), (2, .int d)]) rfl ?_
  refine jj_iconst (v := 0) X d_tr_takeFromQueue_0 1 rfl (by decide) ?_
  refine jj_istore_n (lv' := [(0, .ref (q 0)), (1, .int (nI m0)), (2, .int d), (3, .int 0)]) X d_tr_takeFromQueue_1 2 rfl (by decide) rfl rfl ?_
  refine jj_loop (fun ((k, e1, s1, g, h) : Nat × Nat × (Nat → Int32) × (Nat → Int32) × (Nat → Int32)) => k ≤ m0 ∧ e1 = e0 + k ∧ x_ta d (A 25) (m0 - k) k e1 s1 g h = (x_ta d (A 25) m0 0 e0 (A 17) (A 19) (A 22))) (fun ((k, e1, s1, g, h) : Nat × Nat × (Nat → Int32) × (Nat → Int32) × (Nat → Int32)) => m0 - k) (fun ((k, e1, s1, g, h) : Nat × Nat × (Nat → Int32) × (Nat → Int32) × (Nat → Int32)) => [(0, .ref (q 0)), (1, .int (nI m0)), (2, .int d), (3, .int (nI k))]) (fun ((k, e1, s1, g, h) : Nat × Nat × (Nat → Int32) × (Nat → Int32) × (Nat → Int32)) => []) (fun ((k, e1, s1, g, h) : Nat × Nat × (Nat → Int32) × (Nat → Int32) × (Nat → Int32)) => tw cI cZ q ((ua (ua (ua (ua A 17 (s1)) 19 (g)) 21 (upd (A 21) nL (nI e1))) 22 (h)))) ((0, e0, A 17, A 19, A 22)) (⟨Nat.zero_le _, rfl, rfl⟩) rfl rfl (by simp only; rw [← he]; exact congrArg (fun z => tw cI cZ q (ua (ua (ua (ua A 17 (A 17)) 19 (A 19)) 21 z) 22 (A 22))) (us_ (A 21) nL)) ?_
  rintro ⟨k, e1, s1, g, h⟩ hI ih2
  try dsimp only at hI ih2 ⊢
  obtain ⟨hk, he1, hf⟩ := hI
  refine jj_iload_n X d_tr_takeFromQueue_2 3 rfl 3 rfl ?_
  refine jj_iload_n X d_tr_takeFromQueue_3 4 rfl 1 rfl ?_
  refine jj_icmp_ge X d_tr_takeFromQueue_4 52 7 (by decide) rfl (fun c4 => ?_) (fun c4 => ?_)
  · have hkn : k = m0 := Nat.le_antisymm hk (nI_leD c4 (by omega) (by omega))
    exact jj_vret X hr hlk d_tr_takeFromQueue_52 (by rw [← hf, hkn, Nat.sub_self]; rfl)
  · have hkn : k < m0 := nI_nleD c4 (by omega) (by omega)
    refine jj_aload_n X d_tr_takeFromQueue_7 8 rfl 0 rfl ?_
    refine jj_get (v := .ref (q 32)) X d_tr_takeFromQueue_8 11 rfl i_tr 6 f_tr_51 0 rfl rfl (by decide) rfl rfl ?_
    refine jj_iload_n X d_tr_takeFromQueue_11 12 rfl 3 rfl ?_
    refine jj_iald (v := A 25 k) X d_tr_takeFromQueue_12 13 rfl 32 0 rfl rfl (vp_in_nI (by omega) (by omega)) (ar_cl (by omega)) ?_
    refine jj_istore (lv' := [(0, .ref (q 0)), (1, .int (nI m0)), (2, .int d), (3, .int (nI k)), (4, .int (A 25 k))]) X d_tr_takeFromQueue_13 15 rfl (by decide) rfl rfl ?_
    refine jj_aload_n X d_tr_takeFromQueue_15 16 rfl 0 rfl ?_
    refine jj_get (v := .ref (q 5)) X d_tr_takeFromQueue_16 19 rfl i_tr 3 f_tr_33 0 rfl rfl (by decide) rfl rfl ?_
    refine jj_get (v := .ref (q 24)) X d_tr_takeFromQueue_19 22 rfl i_sl 2 f_tr_121 5 rfl rfl (by decide) rfl rfl ?_
    refine jj_iload X d_tr_takeFromQueue_22 24 rfl 4 rfl ?_
    refine jj_iconst (v := 1) X d_tr_takeFromQueue_24 25 rfl (by decide) ?_
    refine jj_iast (ws' := tw cI cZ q ((ua (ua (ua (ua A 17 (upd (s1) ((A 25 k).toNatClampNeg) 1)) 19 (g)) 21 (upd (A 21) nL (nI e1))) 22 (h)))) X d_tr_takeFromQueue_25 26 rfl 24 0 rfl rfl (hrg.2.2.2.1 _) rfl ?_
    refine jj_aload_n X d_tr_takeFromQueue_26 27 rfl 0 rfl ?_
    refine jj_get (v := .ref (q 5)) X d_tr_takeFromQueue_27 30 rfl i_tr 3 f_tr_33 0 rfl rfl (by decide) rfl rfl ?_
    refine jj_get (v := .ref (q 26)) X d_tr_takeFromQueue_30 33 rfl i_sl 4 f_tr_171 5 rfl rfl (by decide) rfl rfl ?_
    refine jj_iload X d_tr_takeFromQueue_33 35 rfl 4 rfl ?_
    refine jj_iload_n X d_tr_takeFromQueue_35 36 rfl 2 rfl ?_
    refine jj_iast (ws' := tw cI cZ q ((ua (ua (ua (ua A 17 (upd (s1) ((A 25 k).toNatClampNeg) 1)) 19 (upd (g) ((A 25 k).toNatClampNeg) d)) 21 (upd (A 21) nL (nI e1))) 22 (h)))) X d_tr_takeFromQueue_36 37 rfl 26 0 rfl rfl (hrg.2.2.2.1 _) rfl ?_
    refine jj_aload_n X d_tr_takeFromQueue_37 38 rfl 0 rfl ?_
    refine jj_get (v := .ref (q 6)) X d_tr_takeFromQueue_38 41 rfl i_tr 4 f_tr_40 0 rfl rfl (by decide) rfl rfl ?_
    refine jj_iload X d_tr_takeFromQueue_41 43 rfl 4 rfl ?_
    refine jj_callVv0 (st := []) X d_tr_takeFromQueue_43 46 rfl (c_ld_put l D cI cZ q ((ua (ua (ua (ua A 17 (upd (s1) ((A 25 k).toNatClampNeg) 1)) 19 (upd (g) ((A 25 k).toNatClampNeg) d)) 21 (upd (A 21) nL (nI e1))) 22 (h))) nL e1 (A 25 k) hnL hlL (if_pos rfl) (by omega)) g_tr_222 ⟨rfl, w_ld_put⟩ ⟨(Nat.le_of_ble_eq_true rfl), (Nat.le_of_ble_eq_true rfl)⟩ rfl 6 rfl rfl rfl (Nat.le_of_ble_eq_true rfl) ⟨rfl, rfl⟩ ⟨Nat.zero_le _, Nat.zero_le _⟩ (fun u hu => ?_)
    obtain rfl := hu
    refine jj_wse (ws' := tw cI cZ q ((ua (ua (ua (ua A 17 (upd s1 (A 25 k).toNatClampNeg 1)) 19 (upd g (A 25 k).toNatClampNeg d)) 21 (upd (A 21) nL (nI (e1 + 1)))) 22 (upd h e1 (A 25 k))))) (congrArg (fun z => tw cI cZ q (ua (ua (ua (ua A 17 (upd s1 (A 25 k).toNatClampNeg 1)) 19 (upd g (A 25 k).toNatClampNeg d)) 21 z) 22 (upd h e1 (A 25 k)))) (uu_ (A 21) nL (nI e1) (nI (e1 + 1)))) ?_
    refine jj_iinc (v := nI (k + 1)) (lv' := [(0, .ref (q 0)), (1, .int (nI m0)), (2, .int d), (3, .int (nI (k + 1))), (4, .int (A 25 k))]) X d_tr_takeFromQueue_46 49 rfl 3 rfl (ar_inc _) (by decide) rfl rfl ?_
    refine jj_goto X d_tr_takeFromQueue_49 2 (by decide) ?_
    refine jj_lvs (lv' := [(0, .ref (q 0)), (1, .int (nI m0)), (2, .int d), (3, .int (nI (k + 1)))]) (by simp) ?_
    exact ih2 ((k + 1, e1 + 1, upd s1 (A 25 k).toNatClampNeg 1, upd g (A 25 k).toNatClampNeg d, upd h e1 (A 25 k))) (⟨by simp only; omega, by simp only; omega, by simp only; rw [← hf, x_ta_s hkn]⟩) (by simp only; omega)
end
section
set_option maxRecDepth 100000 in
set_option maxHeartbeats 4000000 in
theorem c_tr_load (l : Launch) (D : va_G) (cI cZ : ClassId) (q : Nat → Nat) (A : Rows) (nR : Nat) (nX : Nat) (nS : Nat) (nL : Nat) (nT : Nat) (e0 rm : Nat) (x d : Int32) (hnR : A 0 1 = nI nR) (hlR : nR ≤ 40) (hnX : A 0 2 = nI nX) (hlX : nX ≤ 60) (hnS : A 0 4 = nI nS) (hlS : nS ≤ 150) (hnL : A 0 5 = nI nL) (hlL : nL ≤ 60) (hnT : A 0 6 = nI nT) (hlT : nT ≤ 100) (hrg : rgC A) (he0 : A 21 nL = nI e0) (hcap : e0 + (quD A nS x d).1 ≤ 150) (hrm : A 6 x.toNatClampNeg = nI rm) (hrm9 : rm < 100) : mt_I l D cls_ [(cI, .int), (cZ, .boolean)] nst_ y_tr_load (Cond.code y_tr_load b_tr_load 5 (some .int) :: gt_) (rmd 3) [.ref (q 0), .int x, .int d] (tw cI cZ q A) (fun r u => r = (s_load A nR nX nS nL nT e0 rm x d).1 ∧ u = tw cI cZ q (s_load A nR nX nS nL nT e0 rm x d).2) := by
  refine mt_I_of (by decide) (Nat.le_of_ble_eq_true rfl) ?_
  intro p e s m below meth c AA X hr hlk
  refine jj_lve (lv' := [(0, .ref (q 0)), (1, .int x), (2, .int d)]) rfl ?_
  have hqn := x_qu_n (A := A) (P := pDue A x d) nS 1 0 (A 25)
  have hqd : (quD A nS x d).1 ≤ 150 := by show (x_qu A (pDue A x d) nS 1 0 (A 25)).1 ≤ 150; omega
  refine jj_aload_n X d_tr_load_0 1 rfl 0 rfl ?_
  refine jj_get (v := .ref (q 2)) X d_tr_load_1 4 rfl i_tr 1 f_tr_19 0 rfl rfl (by decide) rfl rfl ?_
  refine jj_iload_n X d_tr_load_4 5 rfl 1 rfl ?_
  refine jj_callV0 (st := []) X d_tr_load_5 8 rfl (c_ro_has l D cI cZ q A x) g_tr_74 ⟨rfl, w_ro_has⟩ ⟨(Nat.le_of_ble_eq_true rfl), (Nat.le_of_ble_eq_true rfl)⟩ rfl 2 rfl rfl rfl (Nat.le_of_ble_eq_true rfl) ⟨rfl, rfl⟩ ⟨Nat.zero_le _, Nat.zero_le _⟩ (fun r u hu => ?_)
  obtain ⟨rfl, rfl⟩ := hu
  rw [hnR]
  refine jj_if_eq X d_tr_load_8 30 11 (by decide) rfl (fun c8 => ?_) (fun c8 => ?_)
  · have c8 := b2_f c8
    refine jj_iconst (v := 0) X d_tr_load_30 31 rfl (by decide) ?_
    exact jj_iret X hr hlk d_tr_load_31 (⟨by simp [s_load, okL, *], by simp [s_load, okL, *]⟩)
  · have c8 := b2_t c8
    have hx : vp_in x 40 := hN_in c8 (by rw [nI_toInt (by omega)]; omega)
    refine jj_iload_n X d_tr_load_11 12 rfl 2 rfl ?_
    refine jj_callS0 (st := []) X d_tr_load_12 15 rfl (c_tr_isDay l D cI cZ q A d) g_tr_75 ⟨rfl, w_tr_isDay⟩ ⟨(Nat.le_of_ble_eq_true rfl), (Nat.le_of_ble_eq_true rfl)⟩ rfl rfl (Nat.le_of_ble_eq_true rfl) ⟨rfl, rfl⟩ ⟨Nat.zero_le _, Nat.zero_le _⟩ (fun r u hu => ?_)
    obtain ⟨rfl, rfl⟩ := hu
    refine jj_if_eq X d_tr_load_15 30 18 (by decide) rfl (fun c15 => ?_) (fun c15 => ?_)
    · have c15 := b2_f c15
      refine jj_iconst (v := 0) X d_tr_load_30 31 rfl (by decide) ?_
      exact jj_iret X hr hlk d_tr_load_31 (⟨by simp [s_load, okL, *], by simp [s_load, okL, *]⟩)
    · have c15 := b2_t c15
      refine jj_aload_n X d_tr_load_18 19 rfl 0 rfl ?_
      refine jj_get (v := .ref (q 2)) X d_tr_load_19 22 rfl i_tr 1 f_tr_19 0 rfl rfl (by decide) rfl rfl ?_
      refine jj_iload_n X d_tr_load_22 23 rfl 1 rfl ?_
      refine jj_iload_n X d_tr_load_23 24 rfl 2 rfl ?_
      refine jj_callV0 (st := []) X d_tr_load_24 27 rfl (c_ro_runsOn l D cI cZ q A nX x d hnX hlX hx) g_tr_131 ⟨rfl, w_ro_runsOn⟩ ⟨(Nat.le_of_ble_eq_true rfl), (Nat.le_of_ble_eq_true rfl)⟩ rfl 2 rfl rfl rfl (Nat.le_of_ble_eq_true rfl) ⟨rfl, rfl⟩ ⟨Nat.zero_le _, Nat.zero_le _⟩ (fun r u hu => ?_)
      obtain ⟨rfl, rfl⟩ := hu
      refine jj_if_ne X d_tr_load_27 32 30 (by decide) rfl (fun c27 => ?_) (fun c27 => ?_)
      · have c27 := b2_t c27
        refine jj_aload_n X d_tr_load_32 33 rfl 0 rfl ?_
        refine jj_get (v := .ref (q 2)) X d_tr_load_33 36 rfl i_tr 1 f_tr_19 0 rfl rfl (by decide) rfl rfl ?_
        refine jj_get (v := .ref (q 14)) X d_tr_load_36 39 rfl i_ro 5 f_tr_134 2 rfl rfl (by decide) rfl rfl ?_
        refine jj_iload_n X d_tr_load_39 40 rfl 1 rfl ?_
        refine jj_iald (v := A 7 x.toNatClampNeg) X d_tr_load_40 41 rfl 14 0 rfl rfl (by assumption) (rfl) ?_
        refine jj_iload_n X d_tr_load_41 42 rfl 2 rfl ?_
        refine jj_icmp_ge X d_tr_load_42 57 45 (by decide) rfl (fun c42 => ?_) (fun c42 => ?_)
        · refine jj_iconst (v := 0) X d_tr_load_57 58 rfl (by decide) ?_
          exact jj_iret X hr hlk d_tr_load_58 (⟨by simp [s_load, okL, *], by simp [s_load, okL, *]⟩)
        · refine jj_aload_n X d_tr_load_45 46 rfl 0 rfl ?_
          refine jj_get (v := .ref (q 6)) X d_tr_load_46 49 rfl i_tr 4 f_tr_40 0 rfl rfl (by decide) rfl rfl ?_
          refine jj_get (v := .int (nI nL)) X d_tr_load_49 52 rfl i_ld 2 f_tr_137 6 rfl rfl (by decide) rfl (by rw [← hnL]; rfl) ?_
          refine jj_bipush (v := 60) X d_tr_load_52 54 rfl (by decide) ?_
          refine jj_icmp_ne X d_tr_load_54 59 57 (by decide) rfl (fun c54 => ?_) (fun c54 => ?_)
          · have hL : nL ≠ 60 := nI_neD c54
            refine jj_aload_n X d_tr_load_59 60 rfl 0 rfl ?_
            refine jj_get (v := .ref (q 2)) X d_tr_load_60 63 rfl i_tr 1 f_tr_19 0 rfl rfl (by decide) rfl rfl ?_
            refine jj_get (v := .ref (q 14)) X d_tr_load_63 66 rfl i_ro 5 f_tr_134 2 rfl rfl (by decide) rfl rfl ?_
            refine jj_iload_n X d_tr_load_66 67 rfl 1 rfl ?_
            refine jj_iload_n X d_tr_load_67 68 rfl 2 rfl ?_
            refine jj_iast (ws' := tw cI cZ q ((ua A 7 (upd (A 7) x.toNatClampNeg d)))) X d_tr_load_68 69 rfl 14 0 rfl rfl (by assumption) rfl ?_
            refine jj_aload_n X d_tr_load_69 70 rfl 0 rfl ?_
            refine jj_get (v := .ref (q 6)) X d_tr_load_70 73 rfl i_tr 4 f_tr_40 0 rfl rfl (by decide) rfl rfl ?_
            refine jj_callV0 (st := []) X d_tr_load_73 76 rfl (c_ld_begin l D cI cZ q ((ua A 7 (upd (A 7) x.toNatClampNeg d))) nL hnL (by omega)) g_tr_138 ⟨rfl, w_ld_begin⟩ ⟨(Nat.le_of_ble_eq_true rfl), (Nat.le_of_ble_eq_true rfl)⟩ rfl 6 rfl rfl rfl (Nat.le_of_ble_eq_true rfl) ⟨rfl, rfl⟩ ⟨Nat.zero_le _, Nat.zero_le _⟩ (fun r u hu => ?_)
            obtain ⟨rfl, rfl⟩ := hu
            refine jj_wse (ws' := tw cI cZ q ((ua (ua (ua A 0 (uz (A 0) 5 (nI (nL + 1)))) 7 (upd (A 7) x.toNatClampNeg d)) 21 (upd (A 21) (nL + 1) (A 21 nL))))) (rfl) ?_
            refine jj_istore_n (lv' := [(0, .ref (q 0)), (1, .int x), (2, .int d), (3, .int (nI (nL + 1)))]) X d_tr_load_76 77 rfl (by decide) rfl rfl ?_
            refine jj_aload_n X d_tr_load_77 78 rfl 0 rfl ?_
            refine jj_iload_n X d_tr_load_78 79 rfl 1 rfl ?_
            refine jj_iload_n X d_tr_load_79 80 rfl 2 rfl ?_
            refine jj_callVv0 (st := []) X d_tr_load_80 83 rfl (c_tr_queueDue l D cI cZ q ((ua (ua (ua A 0 (uz (A 0) 5 (nI (nL + 1)))) 7 (upd (A 7) x.toNatClampNeg d)) 21 (upd (A 21) (nL + 1) (A 21 nL)))) nS x d hnS hlS hrg) g_tr_141 ⟨rfl, w_tr_queueDue⟩ ⟨(Nat.le_of_ble_eq_true rfl), (Nat.le_of_ble_eq_true rfl)⟩ rfl 0 rfl rfl rfl (Nat.le_of_ble_eq_true rfl) ⟨rfl, rfl⟩ ⟨Nat.zero_le _, Nat.zero_le _⟩ (fun u hu => ?_)
            obtain rfl := hu
            refine jj_wse (ws' := tw cI cZ q ((ua (ua (ua (ua A 0 (uz (uz (A 0) 5 (nI (nL + 1))) 7 (nI (quD A nS x d).1))) 7 (upd (A 7) x.toNatClampNeg d)) 21 (upd (A 21) (nL + 1) (A 21 nL))) 25 ((quD A nS x d).2)))) (congrArg (fun (z : Nat × (Nat → Int32)) => tw cI cZ q (ua (ua (ua (ua A 0 (uz (uz (A 0) 5 (nI (nL + 1))) 7 (nI z.1))) 7 (upd (A 7) x.toNatClampNeg d)) 21 (upd (A 21) (nL + 1) (A 21 nL))) 25 z.2)) (x_qu_c (A := (ua (ua (ua A 0 (uz (A 0) 5 (nI (nL + 1)))) 7 (upd (A 7) x.toNatClampNeg d)) 21 (upd (A 21) (nL + 1) (A 21 nL)))) (B := A) (fun _ _ => rfl) (pDue A x d) nS 1 0 (A 25))) ?_
            refine jj_aload_n X d_tr_load_83 84 rfl 0 rfl ?_
            refine jj_get (v := .ref (q 1)) X d_tr_load_84 87 rfl i_tr 0 f_tr_10 0 rfl rfl (by decide) rfl rfl ?_
            refine jj_get (v := .ref (q 8)) X d_tr_load_87 90 rfl i_pl 0 f_tr_67 1 rfl rfl (by decide) rfl rfl ?_
            refine jj_aload_n X d_tr_load_90 91 rfl 0 rfl ?_
            refine jj_get (v := .ref (q 2)) X d_tr_load_91 94 rfl i_tr 1 f_tr_19 0 rfl rfl (by decide) rfl rfl ?_
            refine jj_get (v := .ref (q 10)) X d_tr_load_94 97 rfl i_ro 1 f_tr_144 2 rfl rfl (by decide) rfl rfl ?_
            refine jj_iload_n X d_tr_load_97 98 rfl 1 rfl ?_
            refine jj_iald (v := A 3 x.toNatClampNeg) X d_tr_load_98 99 rfl 10 0 rfl rfl (by assumption) (rfl) ?_
            refine jj_zald (v := A 1 (A 3 x.toNatClampNeg).toNatClampNeg) X d_tr_load_99 100 rfl 8 1 rfl rfl (hrg.2.2.2.2.1 _) (rfl) ?_
            refine jj_if_eq X d_tr_load_100 138 103 (by decide) rfl (fun c100 => ?_) (fun c100 => ?_)
            · refine jj_aload_n X d_tr_load_138 139 rfl 0 rfl ?_
              refine jj_iconst (v := 0) X d_tr_load_139 140 rfl (by decide) ?_
              refine jj_iconst (v := 1) X d_tr_load_140 141 rfl (by decide) ?_
              refine jj_callVv0 (st := []) X d_tr_load_141 144 rfl (c_tr_tellQueue l D cI cZ q ((ua (ua (ua (ua A 0 (uz (uz (A 0) 5 (nI (nL + 1))) 7 (nI (quD A nS x d).1))) 7 (upd (A 7) x.toNatClampNeg d)) 21 (upd (A 21) (nL + 1) (A 21 nL))) 25 ((quD A nS x d).2))) (quD A nS x d).1 0 nT 1 rfl (by omega) (by omega) hnT hlT) g_tr_158 ⟨rfl, w_tr_tellQueue⟩ ⟨(Nat.le_of_ble_eq_true rfl), (Nat.le_of_ble_eq_true rfl)⟩ rfl 0 rfl rfl rfl (Nat.le_of_ble_eq_true rfl) ⟨rfl, rfl⟩ ⟨Nat.zero_le _, Nat.zero_le _⟩ (fun u hu => ?_)
              obtain rfl := hu
              refine jj_wse (ws' := tw cI cZ q ((ua (ua (ua (ua (ua (ua A 0 (uz (uz (uz (A 0) 5 (nI (nL + 1))) 7 (nI (quD A nS x d).1)) 6 (nI (x_te 1 (quD A nS x d).2 ((quD A nS x d).1 - 0) 0 nT (A 23) (A 24)).1))) 7 (upd (A 7) x.toNatClampNeg d)) 21 (upd (A 21) (nL + 1) (A 21 nL))) 23 ((x_te 1 (quD A nS x d).2 ((quD A nS x d).1 - 0) 0 nT (A 23) (A 24)).2.1)) 24 ((x_te 1 (quD A nS x d).2 ((quD A nS x d).1 - 0) 0 nT (A 23) (A 24)).2.2)) 25 ((quD A nS x d).2)))) (rfl) ?_
              refine jj_iload_n X d_tr_load_144 145 rfl 3 rfl ?_
              exact jj_iret X hr hlk d_tr_load_145 (⟨by simp [s_load, okL, *], by simp [s_load, okL, *]⟩)
            · refine jj_aload_n X d_tr_load_103 104 rfl 0 rfl ?_
              refine jj_get (v := .int (nI (quD A nS x d).1)) X d_tr_load_104 107 rfl i_tr 7 f_tr_55 0 rfl rfl (by decide) rfl rfl ?_
              refine jj_aload_n X d_tr_load_107 108 rfl 0 rfl ?_
              refine jj_get (v := .ref (q 2)) X d_tr_load_108 111 rfl i_tr 1 f_tr_19 0 rfl rfl (by decide) rfl rfl ?_
              refine jj_get (v := .ref (q 13)) X d_tr_load_111 114 rfl i_ro 4 f_tr_147 2 rfl rfl (by decide) rfl rfl ?_
              refine jj_iload_n X d_tr_load_114 115 rfl 1 rfl ?_
              refine jj_iald (v := nI rm) X d_tr_load_115 116 rfl 13 0 rfl rfl (by assumption) (hrm) ?_
              have hrg2 : rgC ((ua (ua (ua (ua A 0 (uz (uz (A 0) 5 (nI (nL + 1))) 7 (nI (quD A nS x d).1))) 7 (upd (A 7) x.toNatClampNeg d)) 21 (upd (A 21) (nL + 1) (A 21 nL))) 25 ((quD A nS x d).2))) := ⟨hrg.1, hrg.2.1, hrg.2.2.1, x_qu_in nS 1 0 (A 25) (by omega) hrg.2.2.2.1, hrg.2.2.2.2⟩
              have hmin : min (quD A nS x d).1 rm ≤ (quD A nS x d).1 := Nat.min_le_left _ _
              refine jj_mmin X d_tr_load_116 119 rfl l_tr_150 a_math_min s_math k_math_min (Nat.le_of_ble_eq_true rfl) (Nat.le_of_ble_eq_true rfl) (Nat.le_of_ble_eq_true rfl) (Nat.le_of_ble_eq_true rfl) ?_
              refine jj_topv (y := nI (min (quD A nS x d).1 rm)) (mn_ (by omega) (by omega)) ?_
              refine jj_istore (lv' := [(0, .ref (q 0)), (1, .int x), (2, .int d), (3, .int (nI (nL + 1))), (4, .int (nI (min (quD A nS x d).1 rm)))]) X d_tr_load_119 121 rfl (by decide) rfl rfl ?_
              refine jj_aload_n X d_tr_load_121 122 rfl 0 rfl ?_
              refine jj_iload X d_tr_load_122 124 rfl 4 rfl ?_
              refine jj_iload_n X d_tr_load_124 125 rfl 2 rfl ?_
              refine jj_callVv0 (st := []) X d_tr_load_125 128 rfl (c_tr_takeFromQueue l D cI cZ q ((ua (ua (ua (ua A 0 (uz (uz (A 0) 5 (nI (nL + 1))) 7 (nI (quD A nS x d).1))) 7 (upd (A 7) x.toNatClampNeg d)) 21 (upd (A 21) (nL + 1) (A 21 nL))) 25 ((quD A nS x d).2))) (nL + 1) (min (quD A nS x d).1 rm) e0 d rfl (by omega) ((if_pos rfl).trans he0) (by omega) (by omega) hrg2) g_tr_155 ⟨rfl, w_tr_takeFromQueue⟩ ⟨(Nat.le_of_ble_eq_true rfl), (Nat.le_of_ble_eq_true rfl)⟩ rfl 0 rfl rfl rfl (Nat.le_of_ble_eq_true rfl) ⟨rfl, rfl⟩ ⟨Nat.zero_le _, Nat.zero_le _⟩ (fun u hu => ?_)
              obtain rfl := hu
              refine jj_wse (ws' := tw cI cZ q ((ua (ua (ua (ua (ua (ua (ua A 0 (uz (uz (A 0) 5 (nI (nL + 1))) 7 (nI (quD A nS x d).1))) 7 (upd (A 7) x.toNatClampNeg d)) 17 ((x_ta d (quD A nS x d).2 (min (quD A nS x d).1 rm) 0 e0 (A 17) (A 19) (A 22)).2.1)) 19 ((x_ta d (quD A nS x d).2 (min (quD A nS x d).1 rm) 0 e0 (A 17) (A 19) (A 22)).2.2.1)) 21 (upd (A 21) (nL + 1) (nI (x_ta d (quD A nS x d).2 (min (quD A nS x d).1 rm) 0 e0 (A 17) (A 19) (A 22)).1))) 22 ((x_ta d (quD A nS x d).2 (min (quD A nS x d).1 rm) 0 e0 (A 17) (A 19) (A 22)).2.2.2)) 25 ((quD A nS x d).2)))) (congrArg (fun z => tw cI cZ q (ua (ua (ua (ua (ua (ua (ua A 0 (uz (uz (A 0) 5 (nI (nL + 1))) 7 (nI (quD A nS x d).1))) 7 (upd (A 7) x.toNatClampNeg d)) 17 ((x_ta d (quD A nS x d).2 (min (quD A nS x d).1 rm) 0 e0 (A 17) (A 19) (A 22)).2.1)) 19 ((x_ta d (quD A nS x d).2 (min (quD A nS x d).1 rm) 0 e0 (A 17) (A 19) (A 22)).2.2.1)) 21 (z)) 22 ((x_ta d (quD A nS x d).2 (min (quD A nS x d).1 rm) 0 e0 (A 17) (A 19) (A 22)).2.2.2)) 25 ((quD A nS x d).2))) (uu_ (A 21) (nL + 1) (A 21 nL) (nI (x_ta d (quD A nS x d).2 (min (quD A nS x d).1 rm) 0 e0 (A 17) (A 19) (A 22)).1))) ?_
              refine jj_aload_n X d_tr_load_128 129 rfl 0 rfl ?_
              refine jj_iload X d_tr_load_129 131 rfl 4 rfl ?_
              refine jj_iconst (v := 2) X d_tr_load_131 132 rfl (by decide) ?_
              refine jj_callVv0 (st := []) X d_tr_load_132 135 rfl (c_tr_tellQueue l D cI cZ q ((ua (ua (ua (ua (ua (ua (ua A 0 (uz (uz (A 0) 5 (nI (nL + 1))) 7 (nI (quD A nS x d).1))) 7 (upd (A 7) x.toNatClampNeg d)) 17 ((x_ta d (quD A nS x d).2 (min (quD A nS x d).1 rm) 0 e0 (A 17) (A 19) (A 22)).2.1)) 19 ((x_ta d (quD A nS x d).2 (min (quD A nS x d).1 rm) 0 e0 (A 17) (A 19) (A 22)).2.2.1)) 21 (upd (A 21) (nL + 1) (nI (x_ta d (quD A nS x d).2 (min (quD A nS x d).1 rm) 0 e0 (A 17) (A 19) (A 22)).1))) 22 ((x_ta d (quD A nS x d).2 (min (quD A nS x d).1 rm) 0 e0 (A 17) (A 19) (A 22)).2.2.2)) 25 ((quD A nS x d).2))) (quD A nS x d).1 (min (quD A nS x d).1 rm) nT 2 rfl (by omega) (by omega) hnT hlT) g_tr_158 ⟨rfl, w_tr_tellQueue⟩ ⟨(Nat.le_of_ble_eq_true rfl), (Nat.le_of_ble_eq_true rfl)⟩ rfl 0 rfl rfl rfl (Nat.le_of_ble_eq_true rfl) ⟨rfl, rfl⟩ ⟨Nat.zero_le _, Nat.zero_le _⟩ (fun u hu => ?_)
              obtain rfl := hu
              refine jj_wse (ws' := tw cI cZ q ((ua (ua (ua (ua (ua (ua (ua (ua (ua A 0 (uz (uz (uz (A 0) 5 (nI (nL + 1))) 7 (nI (quD A nS x d).1)) 6 (nI (x_te 2 (quD A nS x d).2 ((quD A nS x d).1 - min (quD A nS x d).1 rm) (min (quD A nS x d).1 rm) nT (A 23) (A 24)).1))) 7 (upd (A 7) x.toNatClampNeg d)) 17 ((x_ta d (quD A nS x d).2 (min (quD A nS x d).1 rm) 0 e0 (A 17) (A 19) (A 22)).2.1)) 19 ((x_ta d (quD A nS x d).2 (min (quD A nS x d).1 rm) 0 e0 (A 17) (A 19) (A 22)).2.2.1)) 21 (upd (A 21) (nL + 1) (nI (x_ta d (quD A nS x d).2 (min (quD A nS x d).1 rm) 0 e0 (A 17) (A 19) (A 22)).1))) 22 ((x_ta d (quD A nS x d).2 (min (quD A nS x d).1 rm) 0 e0 (A 17) (A 19) (A 22)).2.2.2)) 23 ((x_te 2 (quD A nS x d).2 ((quD A nS x d).1 - min (quD A nS x d).1 rm) (min (quD A nS x d).1 rm) nT (A 23) (A 24)).2.1)) 24 ((x_te 2 (quD A nS x d).2 ((quD A nS x d).1 - min (quD A nS x d).1 rm) (min (quD A nS x d).1 rm) nT (A 23) (A 24)).2.2)) 25 ((quD A nS x d).2)))) (rfl) ?_
              refine jj_goto X d_tr_load_135 144 (by decide) ?_
              refine jj_iload_n X d_tr_load_144 145 rfl 3 rfl ?_
              exact jj_iret X hr hlk d_tr_load_145 (⟨by simp [s_load, okL, *], by simp [s_load, okL, *]⟩)
          · have hL : nL = 60 := nI_eqD c54 (by omega) (by omega)
            refine jj_iconst (v := 0) X d_tr_load_57 58 rfl (by decide) ?_
            exact jj_iret X hr hlk d_tr_load_58 (⟨by simp [s_load, okL, *], by simp [s_load, okL, *]⟩)
      · have c27 := b2_f c27
        refine jj_iconst (v := 0) X d_tr_load_30 31 rfl (by decide) ?_
        exact jj_iret X hr hlk d_tr_load_31 (⟨by simp [s_load, okL, *], by simp [s_load, okL, *]⟩)
end
section
theorem le0_lt1 {x : Int32} : x ≤ 0 ↔ x < 1 := by
  rw [Int32.le_iff_toInt_le, Int32.lt_iff_toInt_lt]
  have e0 : (0 : Int32).toInt = 0 := rfl
  have e1 : (1 : Int32).toInt = 1 := rfl
  omega
theorem d_m {x : Int32} : 100000 ≤ x ↔ 99999 < x := by
  rw [Int32.le_iff_toInt_le, Int32.lt_iff_toInt_lt]
  have e0 : (100000 : Int32).toInt = 100000 := rfl
  have e1 : (99999 : Int32).toInt = 99999 := rfl
  omega
theorem h1_k {n : Nat} {x : Int32} (h : h1 (nI n) x = true) (hn : n < 2 ^ 31) : ∃ k, 1 ≤ k ∧ k ≤ n ∧ x = nI k := by
  obtain ⟨k, hk, e⟩ := h1_of h hn
  exact ⟨k + 1, by omega, by omega, e⟩
theorem vp_lt {x : Int32} {n : Nat} (h : vp_in x n) : x.toNatClampNeg < n := Nat.lt_of_not_le (fun q => h (Or.inr q))
theorem vp_nI {x : Int32} {n : Nat} (h : vp_in x n) : x = nI x.toNatClampNeg := by
  obtain ⟨j, hj, rfl⟩ := nI_of (fun q => h (Or.inl q))
  rw [nI_clamp hj]
/-- what stands in the model's rows lies in its bounds -/
def rgM (A : Rows) : Prop := (∀ j, vp_in (A 15 j) 61) ∧ (∀ j, vp_in (A 16 j) 40) ∧ (∀ j, vp_in (A 3 j) 12) ∧ (∀ j, isB (A 1 j)) ∧ (∀ j, isB (A 13 j)) ∧ (∀ j, isB (A 14 j))
theorem b2_1 {b : Bool} (h : b2 b = 1) : b = true := by cases b with | true => rfl | false => exact absurd h (by decide)
theorem b2_n1 {b : Bool} (h : ¬ b2 b = 1) : b = false := by cases b with | false => rfl | true => exact absurd rfl h
def T0 (A : Rows) : Rows := ua A 0 (uz (A 0) 7 0)
end
section
set_option maxRecDepth 100000 in
set_option maxHeartbeats 4000000 in
theorem c_mo_thrown (l : Launch) (D : va_G) (cI cZ : ClassId) (q : Nat → Nat) (A : Rows) : mt_I l D cls_ [(cI, .int), (cZ, .boolean)] nst_ y_mo_thrown (Cond.code y_mo_thrown b_mo_thrown 1 (some .int) :: gt_) (rmd 0) [.ref (q 0)] (mw cI cZ q A) (fun r u => r = A 0 7 ∧ u = mw cI cZ q A) := by
  refine mt_I_of (by decide) (Nat.le_of_ble_eq_true rfl) ?_
  intro p e s m below meth c AA X hr hlk
  refine jj_lve (lv' := [(0, .ref (q 0))]) rfl ?_
  refine jj_aload_n X d_mo_thrown_0 1 rfl 0 rfl ?_
  refine jj_get (v := .int (A 0 7)) X d_mo_thrown_1 4 rfl i_mo 0 f_mo_38 0 rfl rfl (by decide) rfl rfl ?_
  exact jj_iret X hr hlk d_mo_thrown_4 (⟨rfl, rfl⟩)
set_option maxRecDepth 100000 in
set_option maxHeartbeats 4000000 in
theorem c_mo_isPlace (l : Launch) (D : va_G) (cI cZ : ClassId) (q : Nat → Nat) (A : Rows) (nP : Nat) (x : Int32) (hnP : A 0 0 = nI nP) (hlP : nP ≤ 12) : mt_I l D cls_ [(cI, .int), (cZ, .boolean)] nst_ y_mo_isPlace (Cond.code y_mo_isPlace b_mo_isPlace 2 (some .boolean) :: gt_) (rmd 0) [.ref (q 0), .int x] (mw cI cZ q A) (fun r u => r = b2 (hN (nI nP) x) ∧ u = mw cI cZ q A) := by
  refine mt_I_of (by decide) (Nat.le_of_ble_eq_true rfl) ?_
  intro p e s m below meth c AA X hr hlk
  refine jj_lve (lv' := [(0, .ref (q 0)), (1, .int x)]) rfl ?_
  refine jj_iload_n X d_mo_isPlace_0 1 rfl 1 rfl ?_
  refine jj_if_lt X d_mo_isPlace_1 16 4 (by decide) rfl (fun c1 => ?_) (fun c1 => ?_)
  · refine jj_iconst (v := 0) X d_mo_isPlace_16 17 rfl (by decide) ?_
    exact jj_zret X hr hlk d_mo_isPlace_17 (rfl) (⟨by simp [hN, b2, *], rfl⟩)
  · refine jj_iload_n X d_mo_isPlace_4 5 rfl 1 rfl ?_
    refine jj_aload_n X d_mo_isPlace_5 6 rfl 0 rfl ?_
    refine jj_get (v := .int (nI nP)) X d_mo_isPlace_6 9 rfl i_mo 1 f_mo_42 0 rfl rfl (by decide) rfl (by rw [← hnP]; rfl) ?_
    refine jj_icmp_ge X d_mo_isPlace_9 16 12 (by decide) rfl (fun c9 => ?_) (fun c9 => ?_)
    · refine jj_iconst (v := 0) X d_mo_isPlace_16 17 rfl (by decide) ?_
      exact jj_zret X hr hlk d_mo_isPlace_17 (rfl) (⟨by simp [hN, b2, *], rfl⟩)
    · refine jj_iconst (v := 1) X d_mo_isPlace_12 13 rfl (by decide) ?_
      refine jj_goto X d_mo_isPlace_13 17 (by decide) ?_
      exact jj_zret X hr hlk d_mo_isPlace_17 (rfl) (⟨by simp [hN, b2, *], rfl⟩)
set_option maxRecDepth 100000 in
set_option maxHeartbeats 4000000 in
theorem c_mo_isRoute (l : Launch) (D : va_G) (cI cZ : ClassId) (q : Nat → Nat) (A : Rows) (nR : Nat) (x : Int32) (hnR : A 0 1 = nI nR) (hlR : nR ≤ 40) : mt_I l D cls_ [(cI, .int), (cZ, .boolean)] nst_ y_mo_isRoute (Cond.code y_mo_isRoute b_mo_isRoute 2 (some .boolean) :: gt_) (rmd 0) [.ref (q 0), .int x] (mw cI cZ q A) (fun r u => r = b2 (hN (nI nR) x) ∧ u = mw cI cZ q A) := by
  refine mt_I_of (by decide) (Nat.le_of_ble_eq_true rfl) ?_
  intro p e s m below meth c AA X hr hlk
  refine jj_lve (lv' := [(0, .ref (q 0)), (1, .int x)]) rfl ?_
  refine jj_iload_n X d_mo_isRoute_0 1 rfl 1 rfl ?_
  refine jj_if_lt X d_mo_isRoute_1 16 4 (by decide) rfl (fun c1 => ?_) (fun c1 => ?_)
  · refine jj_iconst (v := 0) X d_mo_isRoute_16 17 rfl (by decide) ?_
    exact jj_zret X hr hlk d_mo_isRoute_17 (rfl) (⟨by simp [hN, b2, *], rfl⟩)
  · refine jj_iload_n X d_mo_isRoute_4 5 rfl 1 rfl ?_
    refine jj_aload_n X d_mo_isRoute_5 6 rfl 0 rfl ?_
    refine jj_get (v := .int (nI nR)) X d_mo_isRoute_6 9 rfl i_mo 3 f_mo_45 0 rfl rfl (by decide) rfl (by rw [← hnR]; rfl) ?_
    refine jj_icmp_ge X d_mo_isRoute_9 16 12 (by decide) rfl (fun c9 => ?_) (fun c9 => ?_)
    · refine jj_iconst (v := 0) X d_mo_isRoute_16 17 rfl (by decide) ?_
      exact jj_zret X hr hlk d_mo_isRoute_17 (rfl) (⟨by simp [hN, b2, *], rfl⟩)
    · refine jj_iconst (v := 1) X d_mo_isRoute_12 13 rfl (by decide) ?_
      refine jj_goto X d_mo_isRoute_13 17 (by decide) ?_
      exact jj_zret X hr hlk d_mo_isRoute_17 (rfl) (⟨by simp [hN, b2, *], rfl⟩)
set_option maxRecDepth 100000 in
set_option maxHeartbeats 4000000 in
theorem c_mo_isCopy (l : Launch) (D : va_G) (cI cZ : ClassId) (q : Nat → Nat) (A : Rows) (nC : Nat) (x : Int32) (hnC : A 0 3 = nI nC) (hlC : nC ≤ 60) : mt_I l D cls_ [(cI, .int), (cZ, .boolean)] nst_ y_mo_isCopy (Cond.code y_mo_isCopy b_mo_isCopy 2 (some .boolean) :: gt_) (rmd 0) [.ref (q 0), .int x] (mw cI cZ q A) (fun r u => r = b2 (h1 (nI nC) x) ∧ u = mw cI cZ q A) := by
  refine mt_I_of (by decide) (Nat.le_of_ble_eq_true rfl) ?_
  intro p e s m below meth c AA X hr hlk
  refine jj_lve (lv' := [(0, .ref (q 0)), (1, .int x)]) rfl ?_
  refine jj_iload_n X d_mo_isCopy_0 1 rfl 1 rfl ?_
  refine jj_if_le X d_mo_isCopy_1 16 4 (by decide) rfl (fun c1 => ?_) (fun c1 => ?_)
  · have c1 := le0_lt1.mp c1
    refine jj_iconst (v := 0) X d_mo_isCopy_16 17 rfl (by decide) ?_
    exact jj_zret X hr hlk d_mo_isCopy_17 (rfl) (⟨by simp [h1, b2, *], rfl⟩)
  · have c1 : ¬ x < 1 := fun q9 => c1 (le0_lt1.mpr q9)
    refine jj_iload_n X d_mo_isCopy_4 5 rfl 1 rfl ?_
    refine jj_aload_n X d_mo_isCopy_5 6 rfl 0 rfl ?_
    refine jj_get (v := .int (nI nC)) X d_mo_isCopy_6 9 rfl i_mo 8 f_mo_48 0 rfl rfl (by decide) rfl (by rw [← hnC]; rfl) ?_
    refine jj_icmp_gt X d_mo_isCopy_9 16 12 (by decide) rfl (fun c9 => ?_) (fun c9 => ?_)
    · refine jj_iconst (v := 0) X d_mo_isCopy_16 17 rfl (by decide) ?_
      exact jj_zret X hr hlk d_mo_isCopy_17 (rfl) (⟨by simp [h1, b2, *], rfl⟩)
    · refine jj_iconst (v := 1) X d_mo_isCopy_12 13 rfl (by decide) ?_
      refine jj_goto X d_mo_isCopy_13 17 (by decide) ?_
      exact jj_zret X hr hlk d_mo_isCopy_17 (rfl) (⟨by simp [h1, b2, *], rfl⟩)
set_option maxRecDepth 100000 in
set_option maxHeartbeats 4000000 in
theorem c_mo_isSlip (l : Launch) (D : va_G) (cI cZ : ClassId) (q : Nat → Nat) (A : Rows) (nS : Nat) (x : Int32) (hnS : A 0 4 = nI nS) (hlS : nS ≤ 150) : mt_I l D cls_ [(cI, .int), (cZ, .boolean)] nst_ y_mo_isSlip (Cond.code y_mo_isSlip b_mo_isSlip 2 (some .boolean) :: gt_) (rmd 0) [.ref (q 0), .int x] (mw cI cZ q A) (fun r u => r = b2 (h1 (nI nS) x) ∧ u = mw cI cZ q A) := by
  refine mt_I_of (by decide) (Nat.le_of_ble_eq_true rfl) ?_
  intro p e s m below meth c AA X hr hlk
  refine jj_lve (lv' := [(0, .ref (q 0)), (1, .int x)]) rfl ?_
  refine jj_iload_n X d_mo_isSlip_0 1 rfl 1 rfl ?_
  refine jj_if_le X d_mo_isSlip_1 16 4 (by decide) rfl (fun c1 => ?_) (fun c1 => ?_)
  · have c1 := le0_lt1.mp c1
    refine jj_iconst (v := 0) X d_mo_isSlip_16 17 rfl (by decide) ?_
    exact jj_zret X hr hlk d_mo_isSlip_17 (rfl) (⟨by simp [h1, b2, *], rfl⟩)
  · have c1 : ¬ x < 1 := fun q9 => c1 (le0_lt1.mpr q9)
    refine jj_iload_n X d_mo_isSlip_4 5 rfl 1 rfl ?_
    refine jj_aload_n X d_mo_isSlip_5 6 rfl 0 rfl ?_
    refine jj_get (v := .int (nI nS)) X d_mo_isSlip_6 9 rfl i_mo 12 f_mo_51 0 rfl rfl (by decide) rfl (by rw [← hnS]; rfl) ?_
    refine jj_icmp_gt X d_mo_isSlip_9 16 12 (by decide) rfl (fun c9 => ?_) (fun c9 => ?_)
    · refine jj_iconst (v := 0) X d_mo_isSlip_16 17 rfl (by decide) ?_
      exact jj_zret X hr hlk d_mo_isSlip_17 (rfl) (⟨by simp [h1, b2, *], rfl⟩)
    · refine jj_iconst (v := 1) X d_mo_isSlip_12 13 rfl (by decide) ?_
      refine jj_goto X d_mo_isSlip_13 17 (by decide) ?_
      exact jj_zret X hr hlk d_mo_isSlip_17 (rfl) (⟨by simp [h1, b2, *], rfl⟩)
set_option maxRecDepth 100000 in
set_option maxHeartbeats 4000000 in
theorem c_mo_isDay (l : Launch) (D : va_G) (cI cZ : ClassId) (q : Nat → Nat) (A : Rows) (x : Int32) : mt_I l D cls_ [(cI, .int), (cZ, .boolean)] nst_ y_mo_isDay (Cond.code y_mo_isDay b_mo_isDay 1 (some .boolean) :: gt_) (rmd 0) [.int x] (mw cI cZ q A) (fun r u => r = b2 (dC x) ∧ u = mw cI cZ q A) := by
  refine mt_I_of (by decide) (Nat.le_of_ble_eq_true rfl) ?_
  intro p e s m below meth c AA X hr hlk
  refine jj_lve (lv' := [(0, .int x)]) rfl ?_
  refine jj_iload_n X d_mo_isDay_0 1 rfl 0 rfl ?_
  refine jj_if_lt X d_mo_isDay_1 14 4 (by decide) rfl (fun c1 => ?_) (fun c1 => ?_)
  · refine jj_iconst (v := 0) X d_mo_isDay_14 15 rfl (by decide) ?_
    exact jj_zret X hr hlk d_mo_isDay_15 (rfl) (⟨by simp [dC, b2, *], rfl⟩)
  · refine jj_iload_n X d_mo_isDay_4 5 rfl 0 rfl ?_
    refine jj_ldc (v := 100000) X d_mo_isDay_5 7 rfl o_mo_54 ?_
    refine jj_icmp_ge X d_mo_isDay_7 14 10 (by decide) rfl (fun c7 => ?_) (fun c7 => ?_)
    · have c7 := d_m.mp c7
      refine jj_iconst (v := 0) X d_mo_isDay_14 15 rfl (by decide) ?_
      exact jj_zret X hr hlk d_mo_isDay_15 (rfl) (⟨by simp [dC, b2, *], rfl⟩)
    · have c7 : ¬ 99999 < x := fun q9 => c7 (d_m.mpr q9)
      refine jj_iconst (v := 1) X d_mo_isDay_10 11 rfl (by decide) ?_
      refine jj_goto X d_mo_isDay_11 15 (by decide) ?_
      exact jj_zret X hr hlk d_mo_isDay_15 (rfl) (⟨by simp [dC, b2, *], rfl⟩)
set_option maxRecDepth 100000 in
set_option maxHeartbeats 4000000 in
theorem c_mo_place (l : Launch) (D : va_G) (cI cZ : ClassId) (q : Nat → Nat) (A : Rows) (nP : Nat) (hnP : A 0 0 = nI nP) (hlP : nP ≤ 12) : mt_I l D cls_ [(cI, .int), (cZ, .boolean)] nst_ y_mo_place (Cond.code y_mo_place b_mo_place 1 (some .int) :: gt_) (rmd 0) [.ref (q 0)] (mw cI cZ q A) (fun r u => r = (if nP = 12 then -1 else nI nP) ∧ u = mw cI cZ q (if nP = 12 then (ua A 0 (uz (A 0) 7 0)) else (ua A 0 (uz (uz (A 0) 7 0) 0 (nI (nP + 1)))))) := by
  refine mt_I_of (by decide) (Nat.le_of_ble_eq_true rfl) ?_
  intro p e s m below meth c AA X hr hlk
  refine jj_lve (lv' := [(0, .ref (q 0))]) rfl ?_
  refine jj_aload_n X d_mo_place_0 1 rfl 0 rfl ?_
  refine jj_iconst (v := 0) X d_mo_place_1 2 rfl (by decide) ?_
  refine jj_put (ty := .int) (ws' := mw cI cZ q ((ua A 0 (uz (A 0) 7 0)))) X d_mo_place_2 5 rfl i_mo t_mo t_mo_ok n_mo 0 f_mo_38 0 rfl rfl (by decide) rfl rfl (by decide +kernel) rfl rfl (Nat.le_of_ble_eq_true rfl) rfl ?_
  refine jj_aload_n X d_mo_place_5 6 rfl 0 rfl ?_
  refine jj_get (v := .int (nI nP)) X d_mo_place_6 9 rfl i_mo 1 f_mo_42 0 rfl rfl (by decide) rfl (by rw [← hnP]; rfl) ?_
  refine jj_bipush (v := 12) X d_mo_place_9 11 rfl (by decide) ?_
  refine jj_icmp_ne X d_mo_place_11 16 14 (by decide) rfl (fun c11 => ?_) (fun c11 => ?_)
  · have hne : nP ≠ 12 := nI_neD c11
    refine jj_aload_n X d_mo_place_16 17 rfl 0 rfl ?_
    refine jj_dup X d_mo_place_17 18 rfl rfl ?_
    refine jj_get (v := .int (nI nP)) X d_mo_place_18 21 rfl i_mo 1 f_mo_42 0 rfl rfl (by decide) rfl (by rw [← hnP]; rfl) ?_
    refine jj_iconst (v := 1) X d_mo_place_21 22 rfl (by decide) ?_
    refine jj_iadd X d_mo_place_22 23 rfl ?_
    refine jj_topv (y := nI (nP + 1)) (nI_1 _) ?_
    refine jj_put (ty := .int) (ws' := mw cI cZ q ((ua A 0 (uz (uz (A 0) 7 0) 0 (nI (nP + 1)))))) X d_mo_place_23 26 rfl i_mo t_mo t_mo_ok n_mo 1 f_mo_42 0 rfl rfl (by decide) rfl rfl (by decide +kernel) rfl rfl (Nat.le_of_ble_eq_true rfl) rfl ?_
    refine jj_aload_n X d_mo_place_26 27 rfl 0 rfl ?_
    refine jj_get (v := .int (nI (nP + 1))) X d_mo_place_27 30 rfl i_mo 1 f_mo_42 0 rfl rfl (by decide) rfl rfl ?_
    refine jj_iconst (v := 1) X d_mo_place_30 31 rfl (by decide) ?_
    refine jj_isub X d_mo_place_31 32 rfl ?_
    refine jj_topv (y := nI nP) (nI_pred _) ?_
    exact jj_iret X hr hlk d_mo_place_32 (⟨by simp [hne], by simp [hne]⟩)
  · have hne : nP = 12 := nI_eqD c11 (by omega) (by omega)
    refine jj_iconst (v := -1) X d_mo_place_14 15 rfl (by decide) ?_
    exact jj_iret X hr hlk d_mo_place_15 (⟨by simp [hne], by simp [hne]⟩)
set_option maxRecDepth 100000 in
set_option maxHeartbeats 4000000 in
theorem c_mo_open (l : Launch) (D : va_G) (cI cZ : ClassId) (q : Nat → Nat) (A : Rows) (nP : Nat) (x : Int32) (on : Bool) (hnP : A 0 0 = nI nP) (hlP : nP ≤ 12) : mt_I l D cls_ [(cI, .int), (cZ, .boolean)] nst_ y_mo_open (Cond.code y_mo_open b_mo_open 4 (some .boolean) :: gt_) (rmd 1) [.ref (q 0), .int x, .int (b2 on)] (mw cI cZ q A) (fun r u => r = (if hN (nI nP) x = true then b2 (decide (A 1 x.toNatClampNeg = 0)) else 0) ∧ u = mw cI cZ q (if hN (nI nP) x = true then (ua (ua A 0 (uz (A 0) 7 0)) 1 (upd (A 1) x.toNatClampNeg (b2 (!on)))) else (ua A 0 (uz (A 0) 7 0)))) := by
  refine mt_I_of (by decide) (Nat.le_of_ble_eq_true rfl) ?_
  intro p e s m below meth c AA X hr hlk
  refine jj_lve (lv' := [(0, .ref (q 0)), (1, .int x), (2, .int (b2 on))]) rfl ?_
  refine jj_aload_n X d_mo_open_0 1 rfl 0 rfl ?_
  refine jj_iconst (v := 0) X d_mo_open_1 2 rfl (by decide) ?_
  refine jj_put (ty := .int) (ws' := mw cI cZ q ((ua A 0 (uz (A 0) 7 0)))) X d_mo_open_2 5 rfl i_mo t_mo t_mo_ok n_mo 0 f_mo_38 0 rfl rfl (by decide) rfl rfl (by decide +kernel) rfl rfl (Nat.le_of_ble_eq_true rfl) rfl ?_
  refine jj_aload_n X d_mo_open_5 6 rfl 0 rfl ?_
  refine jj_iload_n X d_mo_open_6 7 rfl 1 rfl ?_
  refine jj_callV0 (st := []) X d_mo_open_7 10 rfl (c_mo_isPlace l D cI cZ q ((ua A 0 (uz (A 0) 7 0))) nP x hnP hlP) g_mo_55 ⟨rfl, w_mo_isPlace⟩ ⟨(Nat.le_of_ble_eq_true rfl), (Nat.le_of_ble_eq_true rfl)⟩ rfl 0 rfl rfl rfl (Nat.le_of_ble_eq_true rfl) ⟨rfl, rfl⟩ ⟨Nat.zero_le _, Nat.zero_le _⟩ (fun r u hu => ?_)
  obtain ⟨rfl, rfl⟩ := hu
  refine jj_if_ne X d_mo_open_10 15 13 (by decide) rfl (fun c10 => ?_) (fun c10 => ?_)
  · have c10 := b2_t c10
    have hx : vp_in x 12 := hN_in c10 (by rw [nI_toInt (by omega)]; omega)
    refine jj_aload_n X d_mo_open_15 16 rfl 0 rfl ?_
    refine jj_get (v := .ref (q 1)) X d_mo_open_16 19 rfl i_mo 2 f_mo_7 0 rfl rfl (by decide) rfl rfl ?_
    refine jj_iload_n X d_mo_open_19 20 rfl 1 rfl ?_
    refine jj_zald (v := A 1 x.toNatClampNeg) X d_mo_open_20 21 rfl 1 1 rfl rfl (by assumption) (rfl) ?_
    refine jj_if_ne X d_mo_open_21 28 24 (by decide) rfl (fun c21 => ?_) (fun c21 => ?_)
    · refine jj_iconst (v := 0) X d_mo_open_28 29 rfl (by decide) ?_
      refine jj_istore_n (lv' := [(0, .ref (q 0)), (1, .int x), (2, .int (b2 on)), (3, .int 0)]) X d_mo_open_29 30 rfl (by decide) rfl rfl ?_
      refine jj_aload_n X d_mo_open_30 31 rfl 0 rfl ?_
      refine jj_get (v := .ref (q 1)) X d_mo_open_31 34 rfl i_mo 2 f_mo_7 0 rfl rfl (by decide) rfl rfl ?_
      refine jj_iload_n X d_mo_open_34 35 rfl 1 rfl ?_
      refine jj_iload_n X d_mo_open_35 36 rfl 2 rfl ?_
      refine jj_if_ne X d_mo_open_36 43 39 (by decide) rfl (fun c36 => ?_) (fun c36 => ?_)
      · have c36 := b2_t c36
        refine jj_iconst (v := 0) X d_mo_open_43 44 rfl (by decide) ?_
        refine jj_zast (ws' := mw cI cZ q ((ua (ua A 0 (uz (A 0) 7 0)) 1 (upd (A 1) x.toNatClampNeg 0)))) X d_mo_open_44 45 rfl 1 1 rfl rfl (by assumption) (rfl) rfl ?_
        refine jj_iload_n X d_mo_open_45 46 rfl 3 rfl ?_
        exact jj_zret X hr hlk d_mo_open_46 (rfl) (⟨by simp [b2, *], by simp [b2, *]⟩)
      · have c36 := b2_f c36
        refine jj_iconst (v := 1) X d_mo_open_39 40 rfl (by decide) ?_
        refine jj_goto X d_mo_open_40 44 (by decide) ?_
        refine jj_zast (ws' := mw cI cZ q ((ua (ua A 0 (uz (A 0) 7 0)) 1 (upd (A 1) x.toNatClampNeg 1)))) X d_mo_open_44 45 rfl 1 1 rfl rfl (by assumption) (rfl) rfl ?_
        refine jj_iload_n X d_mo_open_45 46 rfl 3 rfl ?_
        exact jj_zret X hr hlk d_mo_open_46 (rfl) (⟨by simp [b2, *], by simp [b2, *]⟩)
    · refine jj_iconst (v := 1) X d_mo_open_24 25 rfl (by decide) ?_
      refine jj_goto X d_mo_open_25 29 (by decide) ?_
      refine jj_istore_n (lv' := [(0, .ref (q 0)), (1, .int x), (2, .int (b2 on)), (3, .int 1)]) X d_mo_open_29 30 rfl (by decide) rfl rfl ?_
      refine jj_aload_n X d_mo_open_30 31 rfl 0 rfl ?_
      refine jj_get (v := .ref (q 1)) X d_mo_open_31 34 rfl i_mo 2 f_mo_7 0 rfl rfl (by decide) rfl rfl ?_
      refine jj_iload_n X d_mo_open_34 35 rfl 1 rfl ?_
      refine jj_iload_n X d_mo_open_35 36 rfl 2 rfl ?_
      refine jj_if_ne X d_mo_open_36 43 39 (by decide) rfl (fun c36 => ?_) (fun c36 => ?_)
      · have c36 := b2_t c36
        refine jj_iconst (v := 0) X d_mo_open_43 44 rfl (by decide) ?_
        refine jj_zast (ws' := mw cI cZ q ((ua (ua A 0 (uz (A 0) 7 0)) 1 (upd (A 1) x.toNatClampNeg 0)))) X d_mo_open_44 45 rfl 1 1 rfl rfl (by assumption) (rfl) rfl ?_
        refine jj_iload_n X d_mo_open_45 46 rfl 3 rfl ?_
        exact jj_zret X hr hlk d_mo_open_46 (rfl) (⟨by simp [b2, *], by simp [b2, *]⟩)
      · have c36 := b2_f c36
        refine jj_iconst (v := 1) X d_mo_open_39 40 rfl (by decide) ?_
        refine jj_goto X d_mo_open_40 44 (by decide) ?_
        refine jj_zast (ws' := mw cI cZ q ((ua (ua A 0 (uz (A 0) 7 0)) 1 (upd (A 1) x.toNatClampNeg 1)))) X d_mo_open_44 45 rfl 1 1 rfl rfl (by assumption) (rfl) rfl ?_
        refine jj_iload_n X d_mo_open_45 46 rfl 3 rfl ?_
        exact jj_zret X hr hlk d_mo_open_46 (rfl) (⟨by simp [b2, *], by simp [b2, *]⟩)
  · have c10 := b2_f c10
    refine jj_iconst (v := 0) X d_mo_open_13 14 rfl (by decide) ?_
    exact jj_zret X hr hlk d_mo_open_14 (rfl) (⟨by simp [b2, *], by simp [b2, *]⟩)
set_option maxRecDepth 100000 in
set_option maxHeartbeats 4000000 in
theorem c_mo_route (l : Launch) (D : va_G) (cI cZ : ClassId) (q : Nat → Nat) (A : Rows) (nP : Nat) (nR : Nat) (a1 a2 a3 a4 a5 : Int32) (hnP : A 0 0 = nI nP) (hlP : nP ≤ 12) (hnR : A 0 1 = nI nR) (hlR : nR ≤ 40) : mt_I l D cls_ [(cI, .int), (cZ, .boolean)] nst_ y_mo_route (Cond.code y_mo_route b_mo_route 7 (some .int) :: gt_) (rmd 1) [.ref (q 0), .int a1, .int a2, .int a3, .int a4, .int a5] (mw cI cZ q A) (fun r u => r = (if (hN (nI nP) a1 && hN (nI nP) a2 && !decide (a1 = a2) && !decide (a3 < 1) && !decide (127 < a3) && !decide (a4 < 0) && decide (a4 ≤ 30) && !decide (a5 < 1) && decide (a5 ≤ 99) && !decide (nR = 40)) = true then nI nR else -1) ∧ u = mw cI cZ q (if (hN (nI nP) a1 && hN (nI nP) a2 && !decide (a1 = a2) && !decide (a3 < 1) && !decide (127 < a3) && !decide (a4 < 0) && decide (a4 ≤ 30) && !decide (a5 < 1) && decide (a5 ≤ 99) && !decide (nR = 40)) = true then (ua (ua (ua (ua (ua (ua (ua A 0 (uz (uz (A 0) 7 0) 1 (nI (nR + 1)))) 2 (upd (A 2) nR a1)) 3 (upd (A 3) nR a2)) 4 (upd (A 4) nR a3)) 5 (upd (A 5) nR a4)) 6 (upd (A 6) nR a5)) 7 (upd (A 7) nR (-1))) else (ua A 0 (uz (A 0) 7 0)))) := by
  refine mt_I_of (by decide) (Nat.le_of_ble_eq_true rfl) ?_
  intro p e s m below meth c AA X hr hlk
  refine jj_lve (lv' := [(0, .ref (q 0)), (1, .int a1), (2, .int a2), (3, .int a3), (4, .int a4), (5, .int a5)]) rfl ?_
  refine jj_aload_n X d_mo_route_0 1 rfl 0 rfl ?_
  refine jj_iconst (v := 0) X d_mo_route_1 2 rfl (by decide) ?_
  refine jj_put (ty := .int) (ws' := mw cI cZ q ((ua A 0 (uz (A 0) 7 0)))) X d_mo_route_2 5 rfl i_mo t_mo t_mo_ok n_mo 0 f_mo_38 0 rfl rfl (by decide) rfl rfl (by decide +kernel) rfl rfl (Nat.le_of_ble_eq_true rfl) rfl ?_
  refine jj_aload_n X d_mo_route_5 6 rfl 0 rfl ?_
  refine jj_iload_n X d_mo_route_6 7 rfl 1 rfl ?_
  refine jj_callV0 (st := []) X d_mo_route_7 10 rfl (c_mo_isPlace l D cI cZ q ((ua A 0 (uz (A 0) 7 0))) nP a1 hnP hlP) g_mo_55 ⟨rfl, w_mo_isPlace⟩ ⟨(Nat.le_of_ble_eq_true rfl), (Nat.le_of_ble_eq_true rfl)⟩ rfl 0 rfl rfl rfl (Nat.le_of_ble_eq_true rfl) ⟨rfl, rfl⟩ ⟨Nat.zero_le _, Nat.zero_le _⟩ (fun r u hu => ?_)
  obtain ⟨rfl, rfl⟩ := hu
  refine jj_if_eq X d_mo_route_10 71 13 (by decide) rfl (fun c10 => ?_) (fun c10 => ?_)
  · have c10 := b2_f c10
    refine jj_iconst (v := -1) X d_mo_route_71 72 rfl (by decide) ?_
    exact jj_iret X hr hlk d_mo_route_72 (⟨by simp [*], by simp [*]⟩)
  · have c10 := b2_t c10
    refine jj_aload_n X d_mo_route_13 14 rfl 0 rfl ?_
    refine jj_iload_n X d_mo_route_14 15 rfl 2 rfl ?_
    refine jj_callV0 (st := []) X d_mo_route_15 18 rfl (c_mo_isPlace l D cI cZ q ((ua A 0 (uz (A 0) 7 0))) nP a2 hnP hlP) g_mo_55 ⟨rfl, w_mo_isPlace⟩ ⟨(Nat.le_of_ble_eq_true rfl), (Nat.le_of_ble_eq_true rfl)⟩ rfl 0 rfl rfl rfl (Nat.le_of_ble_eq_true rfl) ⟨rfl, rfl⟩ ⟨Nat.zero_le _, Nat.zero_le _⟩ (fun r u hu => ?_)
    obtain ⟨rfl, rfl⟩ := hu
    refine jj_if_eq X d_mo_route_18 71 21 (by decide) rfl (fun c18 => ?_) (fun c18 => ?_)
    · have c18 := b2_f c18
      refine jj_iconst (v := -1) X d_mo_route_71 72 rfl (by decide) ?_
      exact jj_iret X hr hlk d_mo_route_72 (⟨by simp [*], by simp [*]⟩)
    · have c18 := b2_t c18
      refine jj_iload_n X d_mo_route_21 22 rfl 1 rfl ?_
      refine jj_iload_n X d_mo_route_22 23 rfl 2 rfl ?_
      refine jj_icmp_eq X d_mo_route_23 71 26 (by decide) rfl (fun c23 => ?_) (fun c23 => ?_)
      · refine jj_iconst (v := -1) X d_mo_route_71 72 rfl (by decide) ?_
        exact jj_iret X hr hlk d_mo_route_72 (⟨by simp [*], by simp [*]⟩)
      · refine jj_iload_n X d_mo_route_26 27 rfl 3 rfl ?_
        refine jj_iconst (v := 1) X d_mo_route_27 28 rfl (by decide) ?_
        refine jj_icmp_lt X d_mo_route_28 71 31 (by decide) rfl (fun c28 => ?_) (fun c28 => ?_)
        · refine jj_iconst (v := -1) X d_mo_route_71 72 rfl (by decide) ?_
          exact jj_iret X hr hlk d_mo_route_72 (⟨by simp [*], by simp [*]⟩)
        · refine jj_iload_n X d_mo_route_31 32 rfl 3 rfl ?_
          refine jj_bipush (v := 127) X d_mo_route_32 34 rfl (by decide) ?_
          refine jj_icmp_gt X d_mo_route_34 71 37 (by decide) rfl (fun c34 => ?_) (fun c34 => ?_)
          · refine jj_iconst (v := -1) X d_mo_route_71 72 rfl (by decide) ?_
            exact jj_iret X hr hlk d_mo_route_72 (⟨by simp [*], by simp [*]⟩)
          · refine jj_iload X d_mo_route_37 39 rfl 4 rfl ?_
            refine jj_if_lt X d_mo_route_39 71 42 (by decide) rfl (fun c39 => ?_) (fun c39 => ?_)
            · refine jj_iconst (v := -1) X d_mo_route_71 72 rfl (by decide) ?_
              exact jj_iret X hr hlk d_mo_route_72 (⟨by simp [*], by simp [*]⟩)
            · refine jj_iload X d_mo_route_42 44 rfl 4 rfl ?_
              refine jj_bipush (v := 30) X d_mo_route_44 46 rfl (by decide) ?_
              refine jj_icmp_gt X d_mo_route_46 71 49 (by decide) rfl (fun c46 => ?_) (fun c46 => ?_)
              · have c46 := Int32.not_le.mpr c46
                refine jj_iconst (v := -1) X d_mo_route_71 72 rfl (by decide) ?_
                exact jj_iret X hr hlk d_mo_route_72 (⟨by simp [*], by simp [*]⟩)
              · have c46 := Int32.not_lt.mp c46
                refine jj_iload X d_mo_route_49 51 rfl 5 rfl ?_
                refine jj_iconst (v := 1) X d_mo_route_51 52 rfl (by decide) ?_
                refine jj_icmp_lt X d_mo_route_52 71 55 (by decide) rfl (fun c52 => ?_) (fun c52 => ?_)
                · refine jj_iconst (v := -1) X d_mo_route_71 72 rfl (by decide) ?_
                  exact jj_iret X hr hlk d_mo_route_72 (⟨by simp [*], by simp [*]⟩)
                · refine jj_iload X d_mo_route_55 57 rfl 5 rfl ?_
                  refine jj_bipush (v := 99) X d_mo_route_57 59 rfl (by decide) ?_
                  refine jj_icmp_gt X d_mo_route_59 71 62 (by decide) rfl (fun c59 => ?_) (fun c59 => ?_)
                  · have c59 := Int32.not_le.mpr c59
                    refine jj_iconst (v := -1) X d_mo_route_71 72 rfl (by decide) ?_
                    exact jj_iret X hr hlk d_mo_route_72 (⟨by simp [*], by simp [*]⟩)
                  · have c59 := Int32.not_lt.mp c59
                    refine jj_aload_n X d_mo_route_62 63 rfl 0 rfl ?_
                    refine jj_get (v := .int (nI nR)) X d_mo_route_63 66 rfl i_mo 3 f_mo_45 0 rfl rfl (by decide) rfl (by rw [← hnR]; rfl) ?_
                    refine jj_bipush (v := 40) X d_mo_route_66 68 rfl (by decide) ?_
                    refine jj_icmp_ne X d_mo_route_68 73 71 (by decide) rfl (fun c68 => ?_) (fun c68 => ?_)
                    · have hR : nR ≠ 40 := nI_neD c68
                      refine jj_bipush (v := 6) X d_mo_route_73 75 rfl (by decide) ?_
                      refine jj_aload_n X d_mo_route_75 76 rfl 0 rfl ?_
                      refine jj_get (v := .int (nI nR)) X d_mo_route_76 79 rfl i_mo 3 f_mo_45 0 rfl rfl (by decide) rfl (by rw [← hnR]; rfl) ?_
                      refine jj_imul X d_mo_route_79 80 rfl ?_
                      refine jj_topv (y := nI (6 * nR)) (pk_mul 6 _) ?_
                      refine jj_istore (lv' := [(0, .ref (q 0)), (1, .int a1), (2, .int a2), (3, .int a3), (4, .int a4), (5, .int a5), (6, .int (nI (6 * nR)))]) X d_mo_route_80 82 rfl (by decide) rfl rfl ?_
                      refine jj_aload_n X d_mo_route_82 83 rfl 0 rfl ?_
                      refine jj_get (v := .ref (q 2)) X d_mo_route_83 86 rfl i_mo 4 f_mo_13 0 rfl rfl (by decide) rfl rfl ?_
                      refine jj_iload X d_mo_route_86 88 rfl 6 rfl ?_
                      refine jj_iload_n X d_mo_route_88 89 rfl 1 rfl ?_
                      refine jj_iast (ws' := mw cI cZ q ((ua (ua A 0 (uz (A 0) 7 0)) 2 (upd (A 2) nR a1)))) X d_mo_route_89 90 rfl 2 0 rfl rfl (vp_in_nI (by omega) (by omega)) (by rw [nI_clamp (by omega)]; exact congrArg (fun z => List.set (mw cI cZ q ((ua A 0 (uz (A 0) 7 0)))) 2 (q 2, .inl (cI, 240, .inl z))) (mxu6_0 _ _)) ?_
                      refine jj_aload_n X d_mo_route_90 91 rfl 0 rfl ?_
                      refine jj_get (v := .ref (q 2)) X d_mo_route_91 94 rfl i_mo 4 f_mo_13 0 rfl rfl (by decide) rfl rfl ?_
                      refine jj_iload X d_mo_route_94 96 rfl 6 rfl ?_
                      refine jj_iconst (v := 1) X d_mo_route_96 97 rfl (by decide) ?_
                      refine jj_iadd X d_mo_route_97 98 rfl ?_
                      refine jj_topv (y := nI (6 * nR + 1)) (nI_1 _) ?_
                      refine jj_iload_n X d_mo_route_98 99 rfl 2 rfl ?_
                      refine jj_iast (ws' := mw cI cZ q ((ua (ua (ua A 0 (uz (A 0) 7 0)) 2 (upd (A 2) nR a1)) 3 (upd (A 3) nR a2)))) X d_mo_route_99 100 rfl 2 0 rfl rfl (vp_in_nI (by omega) (by omega)) (by rw [nI_clamp (by omega)]; exact congrArg (fun z => List.set (mw cI cZ q ((ua (ua A 0 (uz (A 0) 7 0)) 2 (upd (A 2) nR a1)))) 2 (q 2, .inl (cI, 240, .inl z))) (mxu6_1 _ _)) ?_
                      refine jj_aload_n X d_mo_route_100 101 rfl 0 rfl ?_
                      refine jj_get (v := .ref (q 2)) X d_mo_route_101 104 rfl i_mo 4 f_mo_13 0 rfl rfl (by decide) rfl rfl ?_
                      refine jj_iload X d_mo_route_104 106 rfl 6 rfl ?_
                      refine jj_iconst (v := 2) X d_mo_route_106 107 rfl (by decide) ?_
                      refine jj_iadd X d_mo_route_107 108 rfl ?_
                      refine jj_topv (y := nI (6 * nR + 2)) (nI_add _ 2) ?_
                      refine jj_iload_n X d_mo_route_108 109 rfl 3 rfl ?_
                      refine jj_iast (ws' := mw cI cZ q ((ua (ua (ua (ua A 0 (uz (A 0) 7 0)) 2 (upd (A 2) nR a1)) 3 (upd (A 3) nR a2)) 4 (upd (A 4) nR a3)))) X d_mo_route_109 110 rfl 2 0 rfl rfl (vp_in_nI (by omega) (by omega)) (by rw [nI_clamp (by omega)]; exact congrArg (fun z => List.set (mw cI cZ q ((ua (ua (ua A 0 (uz (A 0) 7 0)) 2 (upd (A 2) nR a1)) 3 (upd (A 3) nR a2)))) 2 (q 2, .inl (cI, 240, .inl z))) (mxu6_2 _ _)) ?_
                      refine jj_aload_n X d_mo_route_110 111 rfl 0 rfl ?_
                      refine jj_get (v := .ref (q 2)) X d_mo_route_111 114 rfl i_mo 4 f_mo_13 0 rfl rfl (by decide) rfl rfl ?_
                      refine jj_iload X d_mo_route_114 116 rfl 6 rfl ?_
                      refine jj_iconst (v := 3) X d_mo_route_116 117 rfl (by decide) ?_
                      refine jj_iadd X d_mo_route_117 118 rfl ?_
                      refine jj_topv (y := nI (6 * nR + 3)) (nI_add _ 3) ?_
                      refine jj_iload X d_mo_route_118 120 rfl 4 rfl ?_
                      refine jj_iast (ws' := mw cI cZ q ((ua (ua (ua (ua (ua A 0 (uz (A 0) 7 0)) 2 (upd (A 2) nR a1)) 3 (upd (A 3) nR a2)) 4 (upd (A 4) nR a3)) 5 (upd (A 5) nR a4)))) X d_mo_route_120 121 rfl 2 0 rfl rfl (vp_in_nI (by omega) (by omega)) (by rw [nI_clamp (by omega)]; exact congrArg (fun z => List.set (mw cI cZ q ((ua (ua (ua (ua A 0 (uz (A 0) 7 0)) 2 (upd (A 2) nR a1)) 3 (upd (A 3) nR a2)) 4 (upd (A 4) nR a3)))) 2 (q 2, .inl (cI, 240, .inl z))) (mxu6_3 _ _)) ?_
                      refine jj_aload_n X d_mo_route_121 122 rfl 0 rfl ?_
                      refine jj_get (v := .ref (q 2)) X d_mo_route_122 125 rfl i_mo 4 f_mo_13 0 rfl rfl (by decide) rfl rfl ?_
                      refine jj_iload X d_mo_route_125 127 rfl 6 rfl ?_
                      refine jj_iconst (v := 4) X d_mo_route_127 128 rfl (by decide) ?_
                      refine jj_iadd X d_mo_route_128 129 rfl ?_
                      refine jj_topv (y := nI (6 * nR + 4)) (nI_add _ 4) ?_
                      refine jj_iload X d_mo_route_129 131 rfl 5 rfl ?_
                      refine jj_iast (ws' := mw cI cZ q ((ua (ua (ua (ua (ua (ua A 0 (uz (A 0) 7 0)) 2 (upd (A 2) nR a1)) 3 (upd (A 3) nR a2)) 4 (upd (A 4) nR a3)) 5 (upd (A 5) nR a4)) 6 (upd (A 6) nR a5)))) X d_mo_route_131 132 rfl 2 0 rfl rfl (vp_in_nI (by omega) (by omega)) (by rw [nI_clamp (by omega)]; exact congrArg (fun z => List.set (mw cI cZ q ((ua (ua (ua (ua (ua A 0 (uz (A 0) 7 0)) 2 (upd (A 2) nR a1)) 3 (upd (A 3) nR a2)) 4 (upd (A 4) nR a3)) 5 (upd (A 5) nR a4)))) 2 (q 2, .inl (cI, 240, .inl z))) (mxu6_4 _ _)) ?_
                      refine jj_aload_n X d_mo_route_132 133 rfl 0 rfl ?_
                      refine jj_get (v := .ref (q 2)) X d_mo_route_133 136 rfl i_mo 4 f_mo_13 0 rfl rfl (by decide) rfl rfl ?_
                      refine jj_iload X d_mo_route_136 138 rfl 6 rfl ?_
                      refine jj_iconst (v := 5) X d_mo_route_138 139 rfl (by decide) ?_
                      refine jj_iadd X d_mo_route_139 140 rfl ?_
                      refine jj_topv (y := nI (6 * nR + 5)) (nI_add _ 5) ?_
                      refine jj_iconst (v := -1) X d_mo_route_140 141 rfl (by decide) ?_
                      refine jj_iast (ws' := mw cI cZ q ((ua (ua (ua (ua (ua (ua (ua A 0 (uz (A 0) 7 0)) 2 (upd (A 2) nR a1)) 3 (upd (A 3) nR a2)) 4 (upd (A 4) nR a3)) 5 (upd (A 5) nR a4)) 6 (upd (A 6) nR a5)) 7 (upd (A 7) nR (-1))))) X d_mo_route_141 142 rfl 2 0 rfl rfl (vp_in_nI (by omega) (by omega)) (by rw [nI_clamp (by omega)]; exact congrArg (fun z => List.set (mw cI cZ q ((ua (ua (ua (ua (ua (ua A 0 (uz (A 0) 7 0)) 2 (upd (A 2) nR a1)) 3 (upd (A 3) nR a2)) 4 (upd (A 4) nR a3)) 5 (upd (A 5) nR a4)) 6 (upd (A 6) nR a5)))) 2 (q 2, .inl (cI, 240, .inl z))) (mxu6_5 _ _)) ?_
                      refine jj_aload_n X d_mo_route_142 143 rfl 0 rfl ?_
                      refine jj_dup X d_mo_route_143 144 rfl rfl ?_
                      refine jj_get (v := .int (nI nR)) X d_mo_route_144 147 rfl i_mo 3 f_mo_45 0 rfl rfl (by decide) rfl (by rw [← hnR]; rfl) ?_
                      refine jj_iconst (v := 1) X d_mo_route_147 148 rfl (by decide) ?_
                      refine jj_iadd X d_mo_route_148 149 rfl ?_
                      refine jj_topv (y := nI (nR + 1)) (nI_1 _) ?_
                      refine jj_put (ty := .int) (ws' := mw cI cZ q ((ua (ua (ua (ua (ua (ua (ua A 0 (uz (uz (A 0) 7 0) 1 (nI (nR + 1)))) 2 (upd (A 2) nR a1)) 3 (upd (A 3) nR a2)) 4 (upd (A 4) nR a3)) 5 (upd (A 5) nR a4)) 6 (upd (A 6) nR a5)) 7 (upd (A 7) nR (-1))))) X d_mo_route_149 152 rfl i_mo t_mo t_mo_ok n_mo 3 f_mo_45 0 rfl rfl (by decide) rfl rfl (by decide +kernel) rfl rfl (Nat.le_of_ble_eq_true rfl) rfl ?_
                      refine jj_aload_n X d_mo_route_152 153 rfl 0 rfl ?_
                      refine jj_get (v := .int (nI (nR + 1))) X d_mo_route_153 156 rfl i_mo 3 f_mo_45 0 rfl rfl (by decide) rfl rfl ?_
                      refine jj_iconst (v := 1) X d_mo_route_156 157 rfl (by decide) ?_
                      refine jj_isub X d_mo_route_157 158 rfl ?_
                      refine jj_topv (y := nI nR) (nI_pred _) ?_
                      exact jj_iret X hr hlk d_mo_route_158 (⟨by simp [*], by simp [*]⟩)
                    · have hR : nR = 40 := nI_eqD c68 (by omega) (by omega)
                      refine jj_iconst (v := -1) X d_mo_route_71 72 rfl (by decide) ?_
                      exact jj_iret X hr hlk d_mo_route_72 (⟨by simp [*], by simp [*]⟩)
set_option maxRecDepth 100000 in
set_option maxHeartbeats 4000000 in
theorem c_mo_skipped (l : Launch) (D : va_G) (cI cZ : ClassId) (q : Nat → Nat) (A : Rows) (n : Nat) (a b : Int32) (hn : A 0 2 = nI n) (hle : n ≤ 60) : mt_I l D cls_ [(cI, .int), (cZ, .boolean)] nst_ y_mo_skipped (Cond.code y_mo_skipped b_mo_skipped 4 (some .int) :: gt_) (rmd 0) [.ref (q 0), .int a, .int b] (mw cI cZ q A) (fun r u => r = x_find (A 8) (A 9) a b n 0 ∧ u = mw cI cZ q A) := by
  refine mt_I_of (by decide) (Nat.le_of_ble_eq_true rfl) ?_
  intro p e s m below meth c AA X hr hlk
  refine jj_lve (lv' := [(0, .ref (q 0)), (1, .int a), (2, .int b)]) rfl ?_
  refine jj_iconst (v := 0) X d_mo_skipped_0 1 rfl (by decide) ?_
  refine jj_istore_n (lv' := [(0, .ref (q 0)), (1, .int a), (2, .int b), (3, .int 0)]) X d_mo_skipped_1 2 rfl (by decide) rfl rfl ?_
  refine jj_loop (fun (k : Nat) => k ≤ n ∧ x_find (A 8) (A 9) a b (n - k) k = x_find (A 8) (A 9) a b n 0) (fun (k : Nat) => n - k) (fun (k : Nat) => [(0, .ref (q 0)), (1, .int a), (2, .int b), (3, .int (nI k))]) (fun (k : Nat) => []) (fun (k : Nat) => mw cI cZ q A) (0) (⟨Nat.zero_le _, by rw [Nat.sub_zero]⟩) rfl rfl rfl ?_
  rintro k hI ih2
  try dsimp only at hI ih2 ⊢
  obtain ⟨hk, hf⟩ := hI
  refine jj_iload_n X d_mo_skipped_2 3 rfl 3 rfl ?_
  refine jj_aload_n X d_mo_skipped_3 4 rfl 0 rfl ?_
  refine jj_get (v := .int (nI n)) X d_mo_skipped_4 7 rfl i_mo 7 f_mo_59 0 rfl rfl (by decide) rfl (by rw [← hn]; rfl) ?_
  refine jj_icmp_ge X d_mo_skipped_7 38 10 (by decide) rfl (fun c7 => ?_) (fun c7 => ?_)
  · have hkn : k = n := Nat.le_antisymm hk (nI_leD c7 (by omega) (by omega))
    subst hkn
    refine jj_iconst (v := -1) X d_mo_skipped_38 39 rfl (by decide) ?_
    exact jj_iret X hr hlk d_mo_skipped_39 (⟨by rw [← hf, x_find_e], rfl⟩)
  · have hkn : k < n := nI_nleD c7 (by omega) (by omega)
    refine jj_aload_n X d_mo_skipped_10 11 rfl 0 rfl ?_
    refine jj_get (v := .ref (q 3)) X d_mo_skipped_11 14 rfl i_mo 5 f_mo_17 0 rfl rfl (by decide) rfl rfl ?_
    refine jj_iload_n X d_mo_skipped_14 15 rfl 3 rfl ?_
    refine jj_iald (v := A 8 k) X d_mo_skipped_15 16 rfl 3 0 rfl rfl (vp_in_nI (by omega) (by omega)) (ar_cl (by omega)) ?_
    refine jj_iload_n X d_mo_skipped_16 17 rfl 1 rfl ?_
    refine jj_icmp_ne X d_mo_skipped_17 32 20 (by decide) rfl (fun c17 => ?_) (fun c17 => ?_)
    · refine jj_iinc (v := nI (k + 1)) (lv' := [(0, .ref (q 0)), (1, .int a), (2, .int b), (3, .int (nI (k + 1)))]) X d_mo_skipped_32 35 rfl 3 rfl (ar_inc _) (by decide) rfl rfl ?_
      refine jj_goto X d_mo_skipped_35 2 (by decide) ?_
      exact ih2 (k + 1) (⟨by omega, by rw [← hf, x_find_s hkn, if_neg (by simp [*])]⟩) (by omega)
    · refine jj_aload_n X d_mo_skipped_20 21 rfl 0 rfl ?_
      refine jj_get (v := .ref (q 4)) X d_mo_skipped_21 24 rfl i_mo 6 f_mo_20 0 rfl rfl (by decide) rfl rfl ?_
      refine jj_iload_n X d_mo_skipped_24 25 rfl 3 rfl ?_
      refine jj_iald (v := A 9 k) X d_mo_skipped_25 26 rfl 4 0 rfl rfl (vp_in_nI (by omega) (by omega)) (ar_cl (by omega)) ?_
      refine jj_iload_n X d_mo_skipped_26 27 rfl 2 rfl ?_
      refine jj_icmp_ne X d_mo_skipped_27 32 30 (by decide) rfl (fun c27 => ?_) (fun c27 => ?_)
      · refine jj_iinc (v := nI (k + 1)) (lv' := [(0, .ref (q 0)), (1, .int a), (2, .int b), (3, .int (nI (k + 1)))]) X d_mo_skipped_32 35 rfl 3 rfl (ar_inc _) (by decide) rfl rfl ?_
        refine jj_goto X d_mo_skipped_35 2 (by decide) ?_
        exact ih2 (k + 1) (⟨by omega, by rw [← hf, x_find_s hkn, if_neg (by simp [*])]⟩) (by omega)
      · refine jj_iload_n X d_mo_skipped_30 31 rfl 3 rfl ?_
        exact jj_iret X hr hlk d_mo_skipped_31 (⟨by rw [← hf, x_find_s hkn, if_pos (by simp [*])], rfl⟩)
set_option maxRecDepth 100000 in
set_option maxHeartbeats 4000000 in
theorem c_mo_runs (l : Launch) (D : va_G) (cI cZ : ClassId) (q : Nat → Nat) (A : Rows) (nX : Nat) (k : Nat) (d : Int32) (hnX : A 0 2 = nI nX) (hlX : nX ≤ 60) (hk : k < 40) : mt_I l D cls_ [(cI, .int), (cZ, .boolean)] nst_ y_mo_runs (Cond.code y_mo_runs b_mo_runs 3 (some .boolean) :: gt_) (rmd 1) [.ref (q 0), .int (nI k), .int d] (mw cI cZ q A) (fun r u => r = b2 (ruC A nX (nI k) d) ∧ u = mw cI cZ q A) := by
  refine mt_I_of (by decide) (Nat.le_of_ble_eq_true rfl) ?_
  intro p e s m below meth c AA X hr hlk
  refine jj_lve (lv' := [(0, .ref (q 0)), (1, .int (nI k)), (2, .int d)]) rfl ?_
  refine jj_aload_n X d_mo_runs_0 1 rfl 0 rfl ?_
  refine jj_get (v := .ref (q 2)) X d_mo_runs_1 4 rfl i_mo 4 f_mo_13 0 rfl rfl (by decide) rfl rfl ?_
  refine jj_bipush (v := 6) X d_mo_runs_4 6 rfl (by decide) ?_
  refine jj_iload_n X d_mo_runs_6 7 rfl 1 rfl ?_
  refine jj_imul X d_mo_runs_7 8 rfl ?_
  refine jj_topv (y := nI (6 * k)) (pk_mul 6 _) ?_
  refine jj_iconst (v := 2) X d_mo_runs_8 9 rfl (by decide) ?_
  refine jj_iadd X d_mo_runs_9 10 rfl ?_
  refine jj_topv (y := nI (6 * k + 2)) (nI_add _ 2) ?_
  refine jj_iald (v := A 4 k) X d_mo_runs_10 11 rfl 2 0 rfl rfl (vp_in_nI (by omega) (by omega)) ((ar_cl (by omega)).trans (mxr6_2 _)) ?_
  refine jj_iload_n X d_mo_runs_11 12 rfl 2 rfl ?_
  refine jj_bipush (v := 7) X d_mo_runs_12 14 rfl (by decide) ?_
  refine jj_irem X d_mo_runs_14 15 rfl (by decide) ?_
  refine jj_ishr X d_mo_runs_15 16 rfl ?_
  refine jj_iconst (v := 1) X d_mo_runs_16 17 rfl (by decide) ?_
  refine jj_iand X d_mo_runs_17 18 rfl ?_
  refine jj_iconst (v := 1) X d_mo_runs_18 19 rfl (by decide) ?_
  refine jj_icmp_ne X d_mo_runs_19 36 22 (by decide) rfl (fun c19 => ?_) (fun c19 => ?_)
  · refine jj_iconst (v := 0) X d_mo_runs_36 37 rfl (by decide) ?_
    exact jj_zret X hr hlk d_mo_runs_37 (rfl) (⟨by simp [ruC, b2, nI_clamp (show k < 2 ^ 31 by omega), *], rfl⟩)
  · refine jj_aload_n X d_mo_runs_22 23 rfl 0 rfl ?_
    refine jj_iload_n X d_mo_runs_23 24 rfl 1 rfl ?_
    refine jj_iload_n X d_mo_runs_24 25 rfl 2 rfl ?_
    refine jj_callV0 (st := []) X d_mo_runs_25 28 rfl (c_mo_skipped l D cI cZ q A nX (nI k) d hnX hlX) g_mo_68 ⟨rfl, w_mo_skipped⟩ ⟨(Nat.le_of_ble_eq_true rfl), (Nat.le_of_ble_eq_true rfl)⟩ rfl 0 rfl rfl rfl (Nat.le_of_ble_eq_true rfl) ⟨rfl, rfl⟩ ⟨Nat.zero_le _, Nat.zero_le _⟩ (fun r u hu => ?_)
    obtain ⟨rfl, rfl⟩ := hu
    refine jj_iconst (v := -1) X d_mo_runs_28 29 rfl (by decide) ?_
    refine jj_icmp_ne X d_mo_runs_29 36 32 (by decide) rfl (fun c29 => ?_) (fun c29 => ?_)
    · refine jj_iconst (v := 0) X d_mo_runs_36 37 rfl (by decide) ?_
      exact jj_zret X hr hlk d_mo_runs_37 (rfl) (⟨by simp [ruC, b2, nI_clamp (show k < 2 ^ 31 by omega), *], rfl⟩)
    · refine jj_iconst (v := 1) X d_mo_runs_32 33 rfl (by decide) ?_
      refine jj_goto X d_mo_runs_33 37 (by decide) ?_
      exact jj_zret X hr hlk d_mo_runs_37 (rfl) (⟨by simp [ruC, b2, nI_clamp (show k < 2 ^ 31 by omega), *], rfl⟩)
set_option maxRecDepth 100000 in
set_option maxHeartbeats 4000000 in
theorem c_mo_skip (l : Launch) (D : va_G) (cI cZ : ClassId) (q : Nat → Nat) (A : Rows) (nR : Nat) (nX : Nat) (x d : Int32) (out : Bool) (hnR : A 0 1 = nI nR) (hlR : nR ≤ 40) (hnX : A 0 2 = nI nX) (hlX : nX ≤ 60) : mt_I l D cls_ [(cI, .int), (cZ, .boolean)] nst_ y_mo_skip (Cond.code y_mo_skip b_mo_skip 5 (some .boolean) :: gt_) (rmd 1) [.ref (q 0), .int x, .int d, .int (b2 out)] (mw cI cZ q A) (fun r u => r = (if (hN (nI nR) x && dC d) = true then (if out = true then b2 (!(decide (nX = 60) || !decide (x_find (A 8) (A 9) x d nX 0 = -1))) else b2 (!decide (x_find (A 8) (A 9) x d nX 0 = -1))) else 0) ∧ u = mw cI cZ q (if (hN (nI nR) x && dC d) = true then (if out = true then (if (!(decide (nX = 60) || !decide (x_find (A 8) (A 9) x d nX 0 = -1))) = true then (ua (ua (ua A 0 (uz (uz (A 0) 7 0) 2 (nI (nX + 1)))) 8 (upd (A 8) nX x)) 9 (upd (A 9) nX d)) else (ua A 0 (uz (A 0) 7 0))) else (if (!decide (x_find (A 8) (A 9) x d nX 0 = -1)) = true then (ua (ua (ua A 0 (uz (uz (A 0) 7 0) 2 (nI (nX - 1)))) 8 (upd (A 8) (x_find (A 8) (A 9) x d nX 0).toNatClampNeg (A 8 (nX - 1)))) 9 (upd (A 9) (x_find (A 8) (A 9) x d nX 0).toNatClampNeg (A 9 (nX - 1)))) else (ua A 0 (uz (A 0) 7 0)))) else (ua A 0 (uz (A 0) 7 0)))) := by
  refine mt_I_of (by decide) (Nat.le_of_ble_eq_true rfl) ?_
  intro p e s m below meth c AA X hr hlk
  refine jj_lve (lv' := [(0, .ref (q 0)), (1, .int x), (2, .int d), (3, .int (b2 out))]) rfl ?_
  refine jj_aload_n X d_mo_skip_0 1 rfl 0 rfl ?_
  refine jj_iconst (v := 0) X d_mo_skip_1 2 rfl (by decide) ?_
  refine jj_put (ty := .int) (ws' := mw cI cZ q ((ua A 0 (uz (A 0) 7 0)))) X d_mo_skip_2 5 rfl i_mo t_mo t_mo_ok n_mo 0 f_mo_38 0 rfl rfl (by decide) rfl rfl (by decide +kernel) rfl rfl (Nat.le_of_ble_eq_true rfl) rfl ?_
  refine jj_aload_n X d_mo_skip_5 6 rfl 0 rfl ?_
  refine jj_iload_n X d_mo_skip_6 7 rfl 1 rfl ?_
  refine jj_callV0 (st := []) X d_mo_skip_7 10 rfl (c_mo_isRoute l D cI cZ q ((ua A 0 (uz (A 0) 7 0))) nR x hnR hlR) g_mo_62 ⟨rfl, w_mo_isRoute⟩ ⟨(Nat.le_of_ble_eq_true rfl), (Nat.le_of_ble_eq_true rfl)⟩ rfl 0 rfl rfl rfl (Nat.le_of_ble_eq_true rfl) ⟨rfl, rfl⟩ ⟨Nat.zero_le _, Nat.zero_le _⟩ (fun r u hu => ?_)
  obtain ⟨rfl, rfl⟩ := hu
  refine jj_if_eq X d_mo_skip_10 20 13 (by decide) rfl (fun c10 => ?_) (fun c10 => ?_)
  · have c10 := b2_f c10
    refine jj_iconst (v := 0) X d_mo_skip_20 21 rfl (by decide) ?_
    exact jj_zret X hr hlk d_mo_skip_21 (rfl) (⟨by simp [*], by simp [*]⟩)
  · have c10 := b2_t c10
    refine jj_iload_n X d_mo_skip_13 14 rfl 2 rfl ?_
    refine jj_callS0 (st := []) X d_mo_skip_14 17 rfl (c_mo_isDay l D cI cZ q ((ua A 0 (uz (A 0) 7 0))) d) g_mo_65 ⟨rfl, w_mo_isDay⟩ ⟨(Nat.le_of_ble_eq_true rfl), (Nat.le_of_ble_eq_true rfl)⟩ rfl rfl (Nat.le_of_ble_eq_true rfl) ⟨rfl, rfl⟩ ⟨Nat.zero_le _, Nat.zero_le _⟩ (fun r u hu => ?_)
    obtain ⟨rfl, rfl⟩ := hu
    refine jj_if_ne X d_mo_skip_17 22 20 (by decide) rfl (fun c17 => ?_) (fun c17 => ?_)
    · have c17 := b2_t c17
      refine jj_aload_n X d_mo_skip_22 23 rfl 0 rfl ?_
      refine jj_iload_n X d_mo_skip_23 24 rfl 1 rfl ?_
      refine jj_iload_n X d_mo_skip_24 25 rfl 2 rfl ?_
      refine jj_callV0 (st := []) X d_mo_skip_25 28 rfl (c_mo_skipped l D cI cZ q ((ua A 0 (uz (A 0) 7 0))) nX x d hnX hlX) g_mo_68 ⟨rfl, w_mo_skipped⟩ ⟨(Nat.le_of_ble_eq_true rfl), (Nat.le_of_ble_eq_true rfl)⟩ rfl 0 rfl rfl rfl (Nat.le_of_ble_eq_true rfl) ⟨rfl, rfl⟩ ⟨Nat.zero_le _, Nat.zero_le _⟩ (fun r u hu => ?_)
      obtain ⟨rfl, rfl⟩ := hu
      refine jj_istore (lv' := [(0, .ref (q 0)), (1, .int x), (2, .int d), (3, .int (b2 out)), (4, .int (x_find (A 8) (A 9) x d nX 0))]) X d_mo_skip_28 30 rfl (by decide) rfl rfl ?_
      refine jj_iload_n X d_mo_skip_30 31 rfl 3 rfl ?_
      refine jj_iload X d_mo_skip_31 33 rfl 4 rfl ?_
      refine jj_iconst (v := -1) X d_mo_skip_33 34 rfl (by decide) ?_
      refine jj_icmp_eq X d_mo_skip_34 41 37 (by decide) rfl (fun c34 => ?_) (fun c34 => ?_)
      · refine jj_iconst (v := 0) X d_mo_skip_41 42 rfl (by decide) ?_
        refine jj_icmp_eq X d_mo_skip_42 58 45 (by decide) rfl (fun c42 => ?_) (fun c42 => ?_)
        · have c42 : out = false := b2_f c42
          refine jj_iconst (v := 0) X d_mo_skip_58 59 rfl (by decide) ?_
          exact jj_zret X hr hlk d_mo_skip_59 (rfl) (⟨by simp [b2, c10, c17, c34, c42], by simp [c10, c17, c34, c42]⟩)
        · have c42 : out = true := b2_t c42
          refine jj_iload_n X d_mo_skip_45 46 rfl 3 rfl ?_
          refine jj_if_eq X d_mo_skip_46 60 49 (by decide) rfl (fun c46 => ?_) (fun c46 => ?_)
          · have c46 := b2_f c46
            exact absurd (c42.symm.trans c46) (by decide)
          · have c46 := b2_t c46
            refine jj_aload_n X d_mo_skip_49 50 rfl 0 rfl ?_
            refine jj_get (v := .int (nI nX)) X d_mo_skip_50 53 rfl i_mo 7 f_mo_59 0 rfl rfl (by decide) rfl (by rw [← hnX]; rfl) ?_
            refine jj_bipush (v := 60) X d_mo_skip_53 55 rfl (by decide) ?_
            refine jj_icmp_ne X d_mo_skip_55 60 58 (by decide) rfl (fun c55 => ?_) (fun c55 => ?_)
            · have hX : nX ≠ 60 := nI_neD c55
              refine jj_iload_n X d_mo_skip_60 61 rfl 3 rfl ?_
              refine jj_if_eq X d_mo_skip_61 97 64 (by decide) rfl (fun c61 => ?_) (fun c61 => ?_)
              · have c61 := b2_f c61
                exact absurd (c42.symm.trans c61) (by decide)
              · have c61 := b2_t c61
                refine jj_aload_n X d_mo_skip_64 65 rfl 0 rfl ?_
                refine jj_get (v := .ref (q 3)) X d_mo_skip_65 68 rfl i_mo 5 f_mo_17 0 rfl rfl (by decide) rfl rfl ?_
                refine jj_aload_n X d_mo_skip_68 69 rfl 0 rfl ?_
                refine jj_get (v := .int (nI nX)) X d_mo_skip_69 72 rfl i_mo 7 f_mo_59 0 rfl rfl (by decide) rfl (by rw [← hnX]; rfl) ?_
                refine jj_iload_n X d_mo_skip_72 73 rfl 1 rfl ?_
                refine jj_iast (ws' := mw cI cZ q ((ua (ua A 0 (uz (A 0) 7 0)) 8 (upd (A 8) nX x)))) X d_mo_skip_73 74 rfl 3 0 rfl rfl (vp_in_nI (by omega) (by omega)) (by rw [nI_clamp (by omega)]; rfl) ?_
                refine jj_aload_n X d_mo_skip_74 75 rfl 0 rfl ?_
                refine jj_get (v := .ref (q 4)) X d_mo_skip_75 78 rfl i_mo 6 f_mo_20 0 rfl rfl (by decide) rfl rfl ?_
                refine jj_aload_n X d_mo_skip_78 79 rfl 0 rfl ?_
                refine jj_get (v := .int (nI nX)) X d_mo_skip_79 82 rfl i_mo 7 f_mo_59 0 rfl rfl (by decide) rfl (by rw [← hnX]; rfl) ?_
                refine jj_iload_n X d_mo_skip_82 83 rfl 2 rfl ?_
                refine jj_iast (ws' := mw cI cZ q ((ua (ua (ua A 0 (uz (A 0) 7 0)) 8 (upd (A 8) nX x)) 9 (upd (A 9) nX d)))) X d_mo_skip_83 84 rfl 4 0 rfl rfl (vp_in_nI (by omega) (by omega)) (by rw [nI_clamp (by omega)]; rfl) ?_
                refine jj_aload_n X d_mo_skip_84 85 rfl 0 rfl ?_
                refine jj_dup X d_mo_skip_85 86 rfl rfl ?_
                refine jj_get (v := .int (nI nX)) X d_mo_skip_86 89 rfl i_mo 7 f_mo_59 0 rfl rfl (by decide) rfl (by rw [← hnX]; rfl) ?_
                refine jj_iconst (v := 1) X d_mo_skip_89 90 rfl (by decide) ?_
                refine jj_iadd X d_mo_skip_90 91 rfl ?_
                refine jj_topv (y := nI (nX + 1)) (nI_1 _) ?_
                refine jj_put (ty := .int) (ws' := mw cI cZ q ((ua (ua (ua A 0 (uz (uz (A 0) 7 0) 2 (nI (nX + 1)))) 8 (upd (A 8) nX x)) 9 (upd (A 9) nX d)))) X d_mo_skip_91 94 rfl i_mo t_mo t_mo_ok n_mo 7 f_mo_59 0 rfl rfl (by decide) rfl rfl (by decide +kernel) rfl rfl (Nat.le_of_ble_eq_true rfl) rfl ?_
                refine jj_goto X d_mo_skip_94 139 (by decide) ?_
                refine jj_iconst (v := 1) X d_mo_skip_139 140 rfl (by decide) ?_
                exact jj_zret X hr hlk d_mo_skip_140 (rfl) (⟨by simp [b2, c10, c17, c34, c42, hX], by simp [c10, c17, c34, c42, hX]⟩)
            · have hX : nX = 60 := nI_eqD c55 (by omega) (by omega)
              refine jj_iconst (v := 0) X d_mo_skip_58 59 rfl (by decide) ?_
              exact jj_zret X hr hlk d_mo_skip_59 (rfl) (⟨by simp [b2, c10, c17, c34, c42, hX], by simp [c10, c17, c34, c42, hX]⟩)
      · obtain ⟨j, -, hj, ej, -, -⟩ := (x_find_r (f := A 8) (g := A 9) (a := x) (b := d) nX 0).resolve_left c34
        have hin : vp_in (x_find (A 8) (A 9) x d nX 0) 60 := by rw [ej]; exact vp_in_nI (by omega) (by omega)
        refine jj_iconst (v := 1) X d_mo_skip_37 38 rfl (by decide) ?_
        refine jj_goto X d_mo_skip_38 42 (by decide) ?_
        refine jj_icmp_eq X d_mo_skip_42 58 45 (by decide) rfl (fun c42 => ?_) (fun c42 => ?_)
        · have c42 : out = true := b2_1 c42
          refine jj_iconst (v := 0) X d_mo_skip_58 59 rfl (by decide) ?_
          exact jj_zret X hr hlk d_mo_skip_59 (rfl) (⟨by simp [b2, c10, c17, c34, c42], by simp [c10, c17, c34, c42]⟩)
        · have c42 : out = false := b2_n1 c42
          refine jj_iload_n X d_mo_skip_45 46 rfl 3 rfl ?_
          refine jj_if_eq X d_mo_skip_46 60 49 (by decide) rfl (fun c46 => ?_) (fun c46 => ?_)
          · have c46 := b2_f c46
            refine jj_iload_n X d_mo_skip_60 61 rfl 3 rfl ?_
            refine jj_if_eq X d_mo_skip_61 97 64 (by decide) rfl (fun c61 => ?_) (fun c61 => ?_)
            · have c61 := b2_f c61
              refine jj_aload_n X d_mo_skip_97 98 rfl 0 rfl ?_
              refine jj_dup X d_mo_skip_98 99 rfl rfl ?_
              refine jj_get (v := .int (nI nX)) X d_mo_skip_99 102 rfl i_mo 7 f_mo_59 0 rfl rfl (by decide) rfl (by rw [← hnX]; rfl) ?_
              refine jj_iconst (v := 1) X d_mo_skip_102 103 rfl (by decide) ?_
              refine jj_isub X d_mo_skip_103 104 rfl ?_
              refine jj_topv (y := nI (nX - 1)) (pk_sub (b := 1) (by omega)) ?_
              refine jj_put (ty := .int) (ws' := mw cI cZ q ((ua A 0 (uz (uz (A 0) 7 0) 2 (nI (nX - 1)))))) X d_mo_skip_104 107 rfl i_mo t_mo t_mo_ok n_mo 7 f_mo_59 0 rfl rfl (by decide) rfl rfl (by decide +kernel) rfl rfl (Nat.le_of_ble_eq_true rfl) rfl ?_
              refine jj_aload_n X d_mo_skip_107 108 rfl 0 rfl ?_
              refine jj_get (v := .ref (q 3)) X d_mo_skip_108 111 rfl i_mo 5 f_mo_17 0 rfl rfl (by decide) rfl rfl ?_
              refine jj_iload X d_mo_skip_111 113 rfl 4 rfl ?_
              refine jj_aload_n X d_mo_skip_113 114 rfl 0 rfl ?_
              refine jj_get (v := .ref (q 3)) X d_mo_skip_114 117 rfl i_mo 5 f_mo_17 0 rfl rfl (by decide) rfl rfl ?_
              refine jj_aload_n X d_mo_skip_117 118 rfl 0 rfl ?_
              refine jj_get (v := .int (nI (nX - 1))) X d_mo_skip_118 121 rfl i_mo 7 f_mo_59 0 rfl rfl (by decide) rfl rfl ?_
              refine jj_iald (v := A 8 (nX - 1)) X d_mo_skip_121 122 rfl 3 0 rfl rfl (vp_in_nI (by omega) (by omega)) (ar_cl (by omega)) ?_
              refine jj_iast (ws' := mw cI cZ q ((ua (ua A 0 (uz (uz (A 0) 7 0) 2 (nI (nX - 1)))) 8 (upd (A 8) ((x_find (A 8) (A 9) x d nX 0).toNatClampNeg) (A 8 (nX - 1)))))) X d_mo_skip_122 123 rfl 3 0 rfl rfl (hin) rfl ?_
              refine jj_aload_n X d_mo_skip_123 124 rfl 0 rfl ?_
              refine jj_get (v := .ref (q 4)) X d_mo_skip_124 127 rfl i_mo 6 f_mo_20 0 rfl rfl (by decide) rfl rfl ?_
              refine jj_iload X d_mo_skip_127 129 rfl 4 rfl ?_
              refine jj_aload_n X d_mo_skip_129 130 rfl 0 rfl ?_
              refine jj_get (v := .ref (q 4)) X d_mo_skip_130 133 rfl i_mo 6 f_mo_20 0 rfl rfl (by decide) rfl rfl ?_
              refine jj_aload_n X d_mo_skip_133 134 rfl 0 rfl ?_
              refine jj_get (v := .int (nI (nX - 1))) X d_mo_skip_134 137 rfl i_mo 7 f_mo_59 0 rfl rfl (by decide) rfl rfl ?_
              refine jj_iald (v := A 9 (nX - 1)) X d_mo_skip_137 138 rfl 4 0 rfl rfl (vp_in_nI (by omega) (by omega)) (ar_cl (by omega)) ?_
              refine jj_iast (ws' := mw cI cZ q ((ua (ua (ua A 0 (uz (uz (A 0) 7 0) 2 (nI (nX - 1)))) 8 (upd (A 8) ((x_find (A 8) (A 9) x d nX 0).toNatClampNeg) (A 8 (nX - 1)))) 9 (upd (A 9) ((x_find (A 8) (A 9) x d nX 0).toNatClampNeg) (A 9 (nX - 1)))))) X d_mo_skip_138 139 rfl 4 0 rfl rfl (hin) rfl ?_
              refine jj_iconst (v := 1) X d_mo_skip_139 140 rfl (by decide) ?_
              exact jj_zret X hr hlk d_mo_skip_140 (rfl) (⟨by simp [b2, c10, c17, c34, c42], by simp [c10, c17, c34, c42]⟩)
            · have c61 := b2_t c61
              exact absurd (c42.symm.trans c61) (by decide)
          · have c46 := b2_t c46
            exact absurd (c42.symm.trans c46) (by decide)
    · have c17 := b2_f c17
      refine jj_iconst (v := 0) X d_mo_skip_20 21 rfl (by decide) ?_
      exact jj_zret X hr hlk d_mo_skip_21 (rfl) (⟨by simp [*], by simp [*]⟩)
set_option maxRecDepth 100000 in
set_option maxHeartbeats 4000000 in
theorem c_mo_copy (l : Launch) (D : va_G) (cI cZ : ClassId) (q : Nat → Nat) (A : Rows) (nP : Nat) (nC : Nat) (x : Int32) (hnP : A 0 0 = nI nP) (hlP : nP ≤ 12) (hnC : A 0 3 = nI nC) (hlC : nC ≤ 60) : mt_I l D cls_ [(cI, .int), (cZ, .boolean)] nst_ y_mo_copy (Cond.code y_mo_copy b_mo_copy 2 (some .int) :: gt_) (rmd 1) [.ref (q 0), .int x] (mw cI cZ q A) (fun r u => r = (if (hN (nI nP) x && !decide (nC = 60)) = true then nI (nC + 1) else 0) ∧ u = mw cI cZ q (if (hN (nI nP) x && !decide (nC = 60)) = true then (ua (ua (ua A 0 (uz (uz (A 0) 7 0) 3 (nI (nC + 1)))) 10 (upd (A 10) (nC + 1) x)) 11 (upd (A 11) (nC + 1) x)) else (ua A 0 (uz (A 0) 7 0)))) := by
  refine mt_I_of (by decide) (Nat.le_of_ble_eq_true rfl) ?_
  intro p e s m below meth c AA X hr hlk
  refine jj_lve (lv' := [(0, .ref (q 0)), (1, .int x)]) rfl ?_
  refine jj_aload_n X d_mo_copy_0 1 rfl 0 rfl ?_
  refine jj_iconst (v := 0) X d_mo_copy_1 2 rfl (by decide) ?_
  refine jj_put (ty := .int) (ws' := mw cI cZ q ((ua A 0 (uz (A 0) 7 0)))) X d_mo_copy_2 5 rfl i_mo t_mo t_mo_ok n_mo 0 f_mo_38 0 rfl rfl (by decide) rfl rfl (by decide +kernel) rfl rfl (Nat.le_of_ble_eq_true rfl) rfl ?_
  refine jj_aload_n X d_mo_copy_5 6 rfl 0 rfl ?_
  refine jj_iload_n X d_mo_copy_6 7 rfl 1 rfl ?_
  refine jj_callV0 (st := []) X d_mo_copy_7 10 rfl (c_mo_isPlace l D cI cZ q ((ua A 0 (uz (A 0) 7 0))) nP x hnP hlP) g_mo_55 ⟨rfl, w_mo_isPlace⟩ ⟨(Nat.le_of_ble_eq_true rfl), (Nat.le_of_ble_eq_true rfl)⟩ rfl 0 rfl rfl rfl (Nat.le_of_ble_eq_true rfl) ⟨rfl, rfl⟩ ⟨Nat.zero_le _, Nat.zero_le _⟩ (fun r u hu => ?_)
  obtain ⟨rfl, rfl⟩ := hu
  refine jj_if_eq X d_mo_copy_10 22 13 (by decide) rfl (fun c10 => ?_) (fun c10 => ?_)
  · have c10 := b2_f c10
    refine jj_iconst (v := 0) X d_mo_copy_22 23 rfl (by decide) ?_
    exact jj_iret X hr hlk d_mo_copy_23 (⟨by simp [*], by simp [*]⟩)
  · have c10 := b2_t c10
    refine jj_aload_n X d_mo_copy_13 14 rfl 0 rfl ?_
    refine jj_get (v := .int (nI nC)) X d_mo_copy_14 17 rfl i_mo 8 f_mo_48 0 rfl rfl (by decide) rfl (by rw [← hnC]; rfl) ?_
    refine jj_bipush (v := 60) X d_mo_copy_17 19 rfl (by decide) ?_
    refine jj_icmp_ne X d_mo_copy_19 24 22 (by decide) rfl (fun c19 => ?_) (fun c19 => ?_)
    · have hC : nC ≠ 60 := nI_neD c19
      refine jj_aload_n X d_mo_copy_24 25 rfl 0 rfl ?_
      refine jj_dup X d_mo_copy_25 26 rfl rfl ?_
      refine jj_get (v := .int (nI nC)) X d_mo_copy_26 29 rfl i_mo 8 f_mo_48 0 rfl rfl (by decide) rfl (by rw [← hnC]; rfl) ?_
      refine jj_iconst (v := 1) X d_mo_copy_29 30 rfl (by decide) ?_
      refine jj_iadd X d_mo_copy_30 31 rfl ?_
      refine jj_topv (y := nI (nC + 1)) (nI_1 _) ?_
      refine jj_put (ty := .int) (ws' := mw cI cZ q ((ua A 0 (uz (uz (A 0) 7 0) 3 (nI (nC + 1)))))) X d_mo_copy_31 34 rfl i_mo t_mo t_mo_ok n_mo 8 f_mo_48 0 rfl rfl (by decide) rfl rfl (by decide +kernel) rfl rfl (Nat.le_of_ble_eq_true rfl) rfl ?_
      refine jj_aload_n X d_mo_copy_34 35 rfl 0 rfl ?_
      refine jj_get (v := .ref (q 5)) X d_mo_copy_35 38 rfl i_mo 9 f_mo_23 0 rfl rfl (by decide) rfl rfl ?_
      refine jj_iconst (v := 3) X d_mo_copy_38 39 rfl (by decide) ?_
      refine jj_aload_n X d_mo_copy_39 40 rfl 0 rfl ?_
      refine jj_get (v := .int (nI (nC + 1))) X d_mo_copy_40 43 rfl i_mo 8 f_mo_48 0 rfl rfl (by decide) rfl rfl ?_
      refine jj_imul X d_mo_copy_43 44 rfl ?_
      refine jj_topv (y := nI (3 * (nC + 1))) (pk_mul 3 _) ?_
      refine jj_iload_n X d_mo_copy_44 45 rfl 1 rfl ?_
      refine jj_iast (ws' := mw cI cZ q ((ua (ua A 0 (uz (uz (A 0) 7 0) 3 (nI (nC + 1)))) 11 (upd (A 11) ((nC + 1)) x)))) X d_mo_copy_45 46 rfl 5 0 rfl rfl (vp_in_nI (by omega) (by omega)) (by rw [nI_clamp (by omega)]; exact congrArg (fun z => List.set (mw cI cZ q ((ua A 0 (uz (uz (A 0) 7 0) 3 (nI (nC + 1)))))) 5 (q 5, .inl (cI, 183, .inl z))) (mxu3_0 _ _)) ?_
      refine jj_aload_n X d_mo_copy_46 47 rfl 0 rfl ?_
      refine jj_get (v := .ref (q 5)) X d_mo_copy_47 50 rfl i_mo 9 f_mo_23 0 rfl rfl (by decide) rfl rfl ?_
      refine jj_iconst (v := 3) X d_mo_copy_50 51 rfl (by decide) ?_
      refine jj_aload_n X d_mo_copy_51 52 rfl 0 rfl ?_
      refine jj_get (v := .int (nI (nC + 1))) X d_mo_copy_52 55 rfl i_mo 8 f_mo_48 0 rfl rfl (by decide) rfl rfl ?_
      refine jj_imul X d_mo_copy_55 56 rfl ?_
      refine jj_topv (y := nI (3 * (nC + 1))) (pk_mul 3 _) ?_
      refine jj_iconst (v := 1) X d_mo_copy_56 57 rfl (by decide) ?_
      refine jj_iadd X d_mo_copy_57 58 rfl ?_
      refine jj_topv (y := nI (3 * (nC + 1) + 1)) (nI_1 _) ?_
      refine jj_iload_n X d_mo_copy_58 59 rfl 1 rfl ?_
      refine jj_iast (ws' := mw cI cZ q ((ua (ua (ua A 0 (uz (uz (A 0) 7 0) 3 (nI (nC + 1)))) 10 (upd (A 10) ((nC + 1)) x)) 11 (upd (A 11) ((nC + 1)) x)))) X d_mo_copy_59 60 rfl 5 0 rfl rfl (vp_in_nI (by omega) (by omega)) (by rw [nI_clamp (by omega)]; exact congrArg (fun z => List.set (mw cI cZ q ((ua (ua A 0 (uz (uz (A 0) 7 0) 3 (nI (nC + 1)))) 11 (upd (A 11) ((nC + 1)) x)))) 5 (q 5, .inl (cI, 183, .inl z))) (mxu3_1 _ _)) ?_
      refine jj_aload_n X d_mo_copy_60 61 rfl 0 rfl ?_
      refine jj_get (v := .int (nI (nC + 1))) X d_mo_copy_61 64 rfl i_mo 8 f_mo_48 0 rfl rfl (by decide) rfl rfl ?_
      exact jj_iret X hr hlk d_mo_copy_64 (⟨by simp [*], by simp [*]⟩)
    · have hC : nC = 60 := nI_eqD c19 (by omega) (by omega)
      refine jj_iconst (v := 0) X d_mo_copy_22 23 rfl (by decide) ?_
      exact jj_iret X hr hlk d_mo_copy_23 (⟨by simp [*], by simp [*]⟩)
set_option maxRecDepth 100000 in
set_option maxHeartbeats 4000000 in
theorem c_mo_priority (l : Launch) (D : va_G) (cI cZ : ClassId) (q : Nat → Nat) (A : Rows) (nC : Nat) (x : Int32) (on : Bool) (hnC : A 0 3 = nI nC) (hlC : nC ≤ 60) (hrg : rgM A) : mt_I l D cls_ [(cI, .int), (cZ, .boolean)] nst_ y_mo_priority (Cond.code y_mo_priority b_mo_priority 4 (some .boolean) :: gt_) (rmd 1) [.ref (q 0), .int x, .int (b2 on)] (mw cI cZ q A) (fun r u => r = (if h1 (nI nC) x = true then A 13 x.toNatClampNeg else 0) ∧ u = mw cI cZ q (if h1 (nI nC) x = true then (ua (ua A 0 (uz (A 0) 7 0)) 13 (upd (A 13) x.toNatClampNeg (b2 on))) else (ua A 0 (uz (A 0) 7 0)))) := by
  refine mt_I_of (by decide) (Nat.le_of_ble_eq_true rfl) ?_
  intro p e s m below meth c AA X hr hlk
  refine jj_lve (lv' := [(0, .ref (q 0)), (1, .int x), (2, .int (b2 on))]) rfl ?_
  refine jj_aload_n X d_mo_priority_0 1 rfl 0 rfl ?_
  refine jj_iconst (v := 0) X d_mo_priority_1 2 rfl (by decide) ?_
  refine jj_put (ty := .int) (ws' := mw cI cZ q ((ua A 0 (uz (A 0) 7 0)))) X d_mo_priority_2 5 rfl i_mo t_mo t_mo_ok n_mo 0 f_mo_38 0 rfl rfl (by decide) rfl rfl (by decide +kernel) rfl rfl (Nat.le_of_ble_eq_true rfl) rfl ?_
  refine jj_aload_n X d_mo_priority_5 6 rfl 0 rfl ?_
  refine jj_iload_n X d_mo_priority_6 7 rfl 1 rfl ?_
  refine jj_callV0 (st := []) X d_mo_priority_7 10 rfl (c_mo_isCopy l D cI cZ q ((ua A 0 (uz (A 0) 7 0))) nC x hnC hlC) g_mo_72 ⟨rfl, w_mo_isCopy⟩ ⟨(Nat.le_of_ble_eq_true rfl), (Nat.le_of_ble_eq_true rfl)⟩ rfl 0 rfl rfl rfl (Nat.le_of_ble_eq_true rfl) ⟨rfl, rfl⟩ ⟨Nat.zero_le _, Nat.zero_le _⟩ (fun r u hu => ?_)
  obtain ⟨rfl, rfl⟩ := hu
  refine jj_if_ne X d_mo_priority_10 15 13 (by decide) rfl (fun c10 => ?_) (fun c10 => ?_)
  · have c10 := b2_t c10
    have hx : vp_in x 61 := h1_in c10 (by rw [nI_toInt (by omega)]; omega)
    refine jj_aload_n X d_mo_priority_15 16 rfl 0 rfl ?_
    refine jj_get (v := .ref (q 6)) X d_mo_priority_16 19 rfl i_mo 10 f_mo_26 0 rfl rfl (by decide) rfl rfl ?_
    refine jj_iload_n X d_mo_priority_19 20 rfl 1 rfl ?_
    refine jj_zald (v := A 13 x.toNatClampNeg) X d_mo_priority_20 21 rfl 6 1 rfl rfl (by assumption) (rfl) ?_
    refine jj_istore_n (lv' := [(0, .ref (q 0)), (1, .int x), (2, .int (b2 on)), (3, .int (A 13 x.toNatClampNeg))]) X d_mo_priority_21 22 rfl (by decide) rfl rfl ?_
    refine jj_aload_n X d_mo_priority_22 23 rfl 0 rfl ?_
    refine jj_get (v := .ref (q 6)) X d_mo_priority_23 26 rfl i_mo 10 f_mo_26 0 rfl rfl (by decide) rfl rfl ?_
    refine jj_iload_n X d_mo_priority_26 27 rfl 1 rfl ?_
    refine jj_iload_n X d_mo_priority_27 28 rfl 2 rfl ?_
    refine jj_zast (ws' := mw cI cZ q ((ua (ua A 0 (uz (A 0) 7 0)) 13 (upd (A 13) x.toNatClampNeg (b2 on))))) X d_mo_priority_28 29 rfl 6 1 rfl rfl (by assumption) (b2_vp _) rfl ?_
    refine jj_iload_n X d_mo_priority_29 30 rfl 3 rfl ?_
    exact jj_zret X hr hlk d_mo_priority_30 (isB_nar (hrg.2.2.2.2.1 _)) (⟨by simp [*], by simp [*]⟩)
  · have c10 := b2_f c10
    refine jj_iconst (v := 0) X d_mo_priority_13 14 rfl (by decide) ?_
    exact jj_zret X hr hlk d_mo_priority_14 (rfl) (⟨by simp [*], by simp [*]⟩)
set_option maxRecDepth 100000 in
set_option maxHeartbeats 4000000 in
theorem c_mo_floats (l : Launch) (D : va_G) (cI cZ : ClassId) (q : Nat → Nat) (A : Rows) (nC : Nat) (x : Int32) (on : Bool) (hnC : A 0 3 = nI nC) (hlC : nC ≤ 60) (hrg : rgM A) : mt_I l D cls_ [(cI, .int), (cZ, .boolean)] nst_ y_mo_floats (Cond.code y_mo_floats b_mo_floats 4 (some .boolean) :: gt_) (rmd 1) [.ref (q 0), .int x, .int (b2 on)] (mw cI cZ q A) (fun r u => r = (if h1 (nI nC) x = true then A 14 x.toNatClampNeg else 0) ∧ u = mw cI cZ q (if h1 (nI nC) x = true then (ua (ua A 0 (uz (A 0) 7 0)) 14 (upd (A 14) x.toNatClampNeg (b2 on))) else (ua A 0 (uz (A 0) 7 0)))) := by
  refine mt_I_of (by decide) (Nat.le_of_ble_eq_true rfl) ?_
  intro p e s m below meth c AA X hr hlk
  refine jj_lve (lv' := [(0, .ref (q 0)), (1, .int x), (2, .int (b2 on))]) rfl ?_
  refine jj_aload_n X d_mo_floats_0 1 rfl 0 rfl ?_
  refine jj_iconst (v := 0) X d_mo_floats_1 2 rfl (by decide) ?_
  refine jj_put (ty := .int) (ws' := mw cI cZ q ((ua A 0 (uz (A 0) 7 0)))) X d_mo_floats_2 5 rfl i_mo t_mo t_mo_ok n_mo 0 f_mo_38 0 rfl rfl (by decide) rfl rfl (by decide +kernel) rfl rfl (Nat.le_of_ble_eq_true rfl) rfl ?_
  refine jj_aload_n X d_mo_floats_5 6 rfl 0 rfl ?_
  refine jj_iload_n X d_mo_floats_6 7 rfl 1 rfl ?_
  refine jj_callV0 (st := []) X d_mo_floats_7 10 rfl (c_mo_isCopy l D cI cZ q ((ua A 0 (uz (A 0) 7 0))) nC x hnC hlC) g_mo_72 ⟨rfl, w_mo_isCopy⟩ ⟨(Nat.le_of_ble_eq_true rfl), (Nat.le_of_ble_eq_true rfl)⟩ rfl 0 rfl rfl rfl (Nat.le_of_ble_eq_true rfl) ⟨rfl, rfl⟩ ⟨Nat.zero_le _, Nat.zero_le _⟩ (fun r u hu => ?_)
  obtain ⟨rfl, rfl⟩ := hu
  refine jj_if_ne X d_mo_floats_10 15 13 (by decide) rfl (fun c10 => ?_) (fun c10 => ?_)
  · have c10 := b2_t c10
    have hx : vp_in x 61 := h1_in c10 (by rw [nI_toInt (by omega)]; omega)
    refine jj_aload_n X d_mo_floats_15 16 rfl 0 rfl ?_
    refine jj_get (v := .ref (q 7)) X d_mo_floats_16 19 rfl i_mo 11 f_mo_29 0 rfl rfl (by decide) rfl rfl ?_
    refine jj_iload_n X d_mo_floats_19 20 rfl 1 rfl ?_
    refine jj_zald (v := A 14 x.toNatClampNeg) X d_mo_floats_20 21 rfl 7 1 rfl rfl (by assumption) (rfl) ?_
    refine jj_istore_n (lv' := [(0, .ref (q 0)), (1, .int x), (2, .int (b2 on)), (3, .int (A 14 x.toNatClampNeg))]) X d_mo_floats_21 22 rfl (by decide) rfl rfl ?_
    refine jj_aload_n X d_mo_floats_22 23 rfl 0 rfl ?_
    refine jj_get (v := .ref (q 7)) X d_mo_floats_23 26 rfl i_mo 11 f_mo_29 0 rfl rfl (by decide) rfl rfl ?_
    refine jj_iload_n X d_mo_floats_26 27 rfl 1 rfl ?_
    refine jj_iload_n X d_mo_floats_27 28 rfl 2 rfl ?_
    refine jj_zast (ws' := mw cI cZ q ((ua (ua A 0 (uz (A 0) 7 0)) 14 (upd (A 14) x.toNatClampNeg (b2 on))))) X d_mo_floats_28 29 rfl 7 1 rfl rfl (by assumption) (b2_vp _) rfl ?_
    refine jj_iload_n X d_mo_floats_29 30 rfl 3 rfl ?_
    exact jj_zret X hr hlk d_mo_floats_30 (isB_nar (hrg.2.2.2.2.2 _)) (⟨by simp [*], by simp [*]⟩)
  · have c10 := b2_f c10
    refine jj_iconst (v := 0) X d_mo_floats_13 14 rfl (by decide) ?_
    exact jj_zret X hr hlk d_mo_floats_14 (rfl) (⟨by simp [*], by simp [*]⟩)
set_option maxRecDepth 100000 in
set_option maxHeartbeats 4000000 in
theorem c_mo_isBefore (l : Launch) (D : va_G) (cI cZ : ClassId) (q : Nat → Nat) (A : Rows) (i j : Nat) (hrg : rgM A) (hi : i ≤ 150) (hj : j ≤ 150) : mt_I l D cls_ [(cI, .int), (cZ, .boolean)] nst_ y_mo_isBefore (Cond.code y_mo_isBefore b_mo_isBefore 7 (some .boolean) :: gt_) (rmd 0) [.ref (q 0), .int (nI i), .int (nI j)] (mw cI cZ q A) (fun r u => r = bfI A (nI i) (nI j) ∧ u = mw cI cZ q A) := by
  refine mt_I_of (by decide) (Nat.le_of_ble_eq_true rfl) ?_
  intro p e s m below meth c AA X hr hlk
  refine jj_lve (lv' := [(0, .ref (q 0)), (1, .int (nI i)), (2, .int (nI j))]) rfl ?_
  refine jj_aload_n X d_mo_isBefore_0 1 rfl 0 rfl ?_
  refine jj_get (v := .ref (q 6)) X d_mo_isBefore_1 4 rfl i_mo 10 f_mo_26 0 rfl rfl (by decide) rfl rfl ?_
  refine jj_aload_n X d_mo_isBefore_4 5 rfl 0 rfl ?_
  refine jj_get (v := .ref (q 8)) X d_mo_isBefore_5 8 rfl i_mo 13 f_mo_32 0 rfl rfl (by decide) rfl rfl ?_
  refine jj_bipush (v := 8) X d_mo_isBefore_8 10 rfl (by decide) ?_
  refine jj_iload_n X d_mo_isBefore_10 11 rfl 1 rfl ?_
  refine jj_imul X d_mo_isBefore_11 12 rfl ?_
  refine jj_topv (y := nI (8 * i)) (pk_mul 8 _) ?_
  refine jj_iald (v := A 15 i) X d_mo_isBefore_12 13 rfl 8 0 rfl rfl (vp_in_nI (by omega) (by omega)) ((ar_cl (by omega)).trans (mxr8_0 _)) ?_
  refine jj_zald (v := A 13 (A 15 i).toNatClampNeg) X d_mo_isBefore_13 14 rfl 6 1 rfl rfl (hrg.1 _) (rfl) ?_
  refine jj_istore_n (lv' := [(0, .ref (q 0)), (1, .int (nI i)), (2, .int (nI j)), (3, .int (A 13 (A 15 i).toNatClampNeg))]) X d_mo_isBefore_14 15 rfl (by decide) rfl rfl ?_
  refine jj_aload_n X d_mo_isBefore_15 16 rfl 0 rfl ?_
  refine jj_get (v := .ref (q 6)) X d_mo_isBefore_16 19 rfl i_mo 10 f_mo_26 0 rfl rfl (by decide) rfl rfl ?_
  refine jj_aload_n X d_mo_isBefore_19 20 rfl 0 rfl ?_
  refine jj_get (v := .ref (q 8)) X d_mo_isBefore_20 23 rfl i_mo 13 f_mo_32 0 rfl rfl (by decide) rfl rfl ?_
  refine jj_bipush (v := 8) X d_mo_isBefore_23 25 rfl (by decide) ?_
  refine jj_iload_n X d_mo_isBefore_25 26 rfl 2 rfl ?_
  refine jj_imul X d_mo_isBefore_26 27 rfl ?_
  refine jj_topv (y := nI (8 * j)) (pk_mul 8 _) ?_
  refine jj_iald (v := A 15 j) X d_mo_isBefore_27 28 rfl 8 0 rfl rfl (vp_in_nI (by omega) (by omega)) ((ar_cl (by omega)).trans (mxr8_0 _)) ?_
  refine jj_zald (v := A 13 (A 15 j).toNatClampNeg) X d_mo_isBefore_28 29 rfl 6 1 rfl rfl (hrg.1 _) (rfl) ?_
  refine jj_istore (lv' := [(0, .ref (q 0)), (1, .int (nI i)), (2, .int (nI j)), (3, .int (A 13 (A 15 i).toNatClampNeg)), (4, .int (A 13 (A 15 j).toNatClampNeg))]) X d_mo_isBefore_29 31 rfl (by decide) rfl rfl ?_
  refine jj_iload_n X d_mo_isBefore_31 32 rfl 3 rfl ?_
  refine jj_iload X d_mo_isBefore_32 34 rfl 4 rfl ?_
  refine jj_icmp_eq X d_mo_isBefore_34 39 37 (by decide) rfl (fun c34 => ?_) (fun c34 => ?_)
  · refine jj_aload_n X d_mo_isBefore_39 40 rfl 0 rfl ?_
    refine jj_get (v := .ref (q 8)) X d_mo_isBefore_40 43 rfl i_mo 13 f_mo_32 0 rfl rfl (by decide) rfl rfl ?_
    refine jj_bipush (v := 8) X d_mo_isBefore_43 45 rfl (by decide) ?_
    refine jj_iload_n X d_mo_isBefore_45 46 rfl 1 rfl ?_
    refine jj_imul X d_mo_isBefore_46 47 rfl ?_
    refine jj_topv (y := nI (8 * i)) (pk_mul 8 _) ?_
    refine jj_iconst (v := 4) X d_mo_isBefore_47 48 rfl (by decide) ?_
    refine jj_iadd X d_mo_isBefore_48 49 rfl ?_
    refine jj_topv (y := nI (8 * i + 4)) (nI_add _ 4) ?_
    refine jj_iald (v := A 19 i) X d_mo_isBefore_49 50 rfl 8 0 rfl rfl (vp_in_nI (by omega) (by omega)) ((ar_cl (by omega)).trans (mxr8_4 _)) ?_
    refine jj_istore (lv' := [(0, .ref (q 0)), (1, .int (nI i)), (2, .int (nI j)), (3, .int (A 13 (A 15 i).toNatClampNeg)), (4, .int (A 13 (A 15 j).toNatClampNeg)), (5, .int (A 19 i))]) X d_mo_isBefore_50 52 rfl (by decide) rfl rfl ?_
    refine jj_aload_n X d_mo_isBefore_52 53 rfl 0 rfl ?_
    refine jj_get (v := .ref (q 8)) X d_mo_isBefore_53 56 rfl i_mo 13 f_mo_32 0 rfl rfl (by decide) rfl rfl ?_
    refine jj_bipush (v := 8) X d_mo_isBefore_56 58 rfl (by decide) ?_
    refine jj_iload_n X d_mo_isBefore_58 59 rfl 2 rfl ?_
    refine jj_imul X d_mo_isBefore_59 60 rfl ?_
    refine jj_topv (y := nI (8 * j)) (pk_mul 8 _) ?_
    refine jj_iconst (v := 4) X d_mo_isBefore_60 61 rfl (by decide) ?_
    refine jj_iadd X d_mo_isBefore_61 62 rfl ?_
    refine jj_topv (y := nI (8 * j + 4)) (nI_add _ 4) ?_
    refine jj_iald (v := A 19 j) X d_mo_isBefore_62 63 rfl 8 0 rfl rfl (vp_in_nI (by omega) (by omega)) ((ar_cl (by omega)).trans (mxr8_4 _)) ?_
    refine jj_istore (lv' := [(0, .ref (q 0)), (1, .int (nI i)), (2, .int (nI j)), (3, .int (A 13 (A 15 i).toNatClampNeg)), (4, .int (A 13 (A 15 j).toNatClampNeg)), (5, .int (A 19 i)), (6, .int (A 19 j))]) X d_mo_isBefore_63 65 rfl (by decide) rfl rfl ?_
    refine jj_iload X d_mo_isBefore_65 67 rfl 5 rfl ?_
    refine jj_iload X d_mo_isBefore_67 69 rfl 6 rfl ?_
    refine jj_icmp_eq X d_mo_isBefore_69 87 72 (by decide) rfl (fun c69 => ?_) (fun c69 => ?_)
    · refine jj_iload_n X d_mo_isBefore_87 88 rfl 1 rfl ?_
      refine jj_iload_n X d_mo_isBefore_88 89 rfl 2 rfl ?_
      refine jj_icmp_ge X d_mo_isBefore_89 96 92 (by decide) rfl (fun c89 => ?_) (fun c89 => ?_)
      · have c89 := Int32.not_lt.mpr c89
        refine jj_iconst (v := 0) X d_mo_isBefore_96 97 rfl (by decide) ?_
        exact jj_zret X hr hlk d_mo_isBefore_97 (rfl) (⟨by simp [bfI, b2, nI_clamp (show i < 2 ^ 31 by omega), nI_clamp (show j < 2 ^ 31 by omega), *], rfl⟩)
      · have c89 := Int32.not_le.mp c89
        refine jj_iconst (v := 1) X d_mo_isBefore_92 93 rfl (by decide) ?_
        refine jj_goto X d_mo_isBefore_93 97 (by decide) ?_
        exact jj_zret X hr hlk d_mo_isBefore_97 (rfl) (⟨by simp [bfI, b2, nI_clamp (show i < 2 ^ 31 by omega), nI_clamp (show j < 2 ^ 31 by omega), *], rfl⟩)
    · refine jj_iload X d_mo_isBefore_72 74 rfl 5 rfl ?_
      refine jj_iload X d_mo_isBefore_74 76 rfl 6 rfl ?_
      refine jj_icmp_ge X d_mo_isBefore_76 83 79 (by decide) rfl (fun c76 => ?_) (fun c76 => ?_)
      · have c76 := Int32.not_lt.mpr c76
        refine jj_iconst (v := 0) X d_mo_isBefore_83 84 rfl (by decide) ?_
        refine jj_goto X d_mo_isBefore_84 97 (by decide) ?_
        exact jj_zret X hr hlk d_mo_isBefore_97 (rfl) (⟨by simp [bfI, b2, nI_clamp (show i < 2 ^ 31 by omega), nI_clamp (show j < 2 ^ 31 by omega), *], rfl⟩)
      · have c76 := Int32.not_le.mp c76
        refine jj_iconst (v := 1) X d_mo_isBefore_79 80 rfl (by decide) ?_
        refine jj_goto X d_mo_isBefore_80 97 (by decide) ?_
        exact jj_zret X hr hlk d_mo_isBefore_97 (rfl) (⟨by simp [bfI, b2, nI_clamp (show i < 2 ^ 31 by omega), nI_clamp (show j < 2 ^ 31 by omega), *], rfl⟩)
  · refine jj_iload_n X d_mo_isBefore_37 38 rfl 3 rfl ?_
    exact jj_zret X hr hlk d_mo_isBefore_38 (isB_nar (hrg.2.2.2.2.1 _)) (⟨by simp [bfI, b2, nI_clamp (show i < 2 ^ 31 by omega), nI_clamp (show j < 2 ^ 31 by omega), *], rfl⟩)
set_option maxRecDepth 100000 in
set_option maxHeartbeats 4000000 in
theorem c_mo_isIn (l : Launch) (D : va_G) (cI cZ : ClassId) (q : Nat → Nat) (A : Rows) (i : Nat) (a b : Int32) (hrg : rgM A) (hi : i ≤ 150) : mt_I l D cls_ [(cI, .int), (cZ, .boolean)] nst_ y_mo_isIn (Cond.code y_mo_isIn b_mo_isIn 5 (some .boolean) :: gt_) (rmd 0) [.ref (q 0), .int (nI i), .int a, .int b] (mw cI cZ q A) (fun r u => r = b2 (pBin A a b i) ∧ u = mw cI cZ q A) := by
  refine mt_I_of (by decide) (Nat.le_of_ble_eq_true rfl) ?_
  intro p e s m below meth c AA X hr hlk
  refine jj_lve (lv' := [(0, .ref (q 0)), (1, .int (nI i)), (2, .int a), (3, .int b)]) rfl ?_
  have h40 := vp_lt (hrg.2.1 i)
  refine jj_aload_n X d_mo_isIn_0 1 rfl 0 rfl ?_
  refine jj_get (v := .ref (q 8)) X d_mo_isIn_1 4 rfl i_mo 13 f_mo_32 0 rfl rfl (by decide) rfl rfl ?_
  refine jj_bipush (v := 8) X d_mo_isIn_4 6 rfl (by decide) ?_
  refine jj_iload_n X d_mo_isIn_6 7 rfl 1 rfl ?_
  refine jj_imul X d_mo_isIn_7 8 rfl ?_
  refine jj_topv (y := nI (8 * i)) (pk_mul 8 _) ?_
  refine jj_iconst (v := 1) X d_mo_isIn_8 9 rfl (by decide) ?_
  refine jj_iadd X d_mo_isIn_9 10 rfl ?_
  refine jj_topv (y := nI (8 * i + 1)) (nI_1 _) ?_
  refine jj_iald (v := A 16 i) X d_mo_isIn_10 11 rfl 8 0 rfl rfl (vp_in_nI (by omega) (by omega)) ((ar_cl (by omega)).trans (mxr8_1 _)) ?_
  refine jj_topv (y := nI (A 16 i).toNatClampNeg) (vp_nI (hrg.2.1 _)) ?_
  refine jj_istore (lv' := [(0, .ref (q 0)), (1, .int (nI i)), (2, .int a), (3, .int b), (4, .int (nI (A 16 i).toNatClampNeg))]) X d_mo_isIn_11 13 rfl (by decide) rfl rfl ?_
  refine jj_aload_n X d_mo_isIn_13 14 rfl 0 rfl ?_
  refine jj_get (v := .ref (q 8)) X d_mo_isIn_14 17 rfl i_mo 13 f_mo_32 0 rfl rfl (by decide) rfl rfl ?_
  refine jj_bipush (v := 8) X d_mo_isIn_17 19 rfl (by decide) ?_
  refine jj_iload_n X d_mo_isIn_19 20 rfl 1 rfl ?_
  refine jj_imul X d_mo_isIn_20 21 rfl ?_
  refine jj_topv (y := nI (8 * i)) (pk_mul 8 _) ?_
  refine jj_iconst (v := 2) X d_mo_isIn_21 22 rfl (by decide) ?_
  refine jj_iadd X d_mo_isIn_22 23 rfl ?_
  refine jj_topv (y := nI (8 * i + 2)) (nI_add _ 2) ?_
  refine jj_iald (v := A 17 i) X d_mo_isIn_23 24 rfl 8 0 rfl rfl (vp_in_nI (by omega) (by omega)) ((ar_cl (by omega)).trans (mxr8_2 _)) ?_
  refine jj_if_ne X d_mo_isIn_24 61 27 (by decide) rfl (fun c24 => ?_) (fun c24 => ?_)
  · refine jj_iconst (v := 0) X d_mo_isIn_61 62 rfl (by decide) ?_
    exact jj_zret X hr hlk d_mo_isIn_62 (rfl) (⟨by simp [pBin, joC, b2, *], rfl⟩)
  · refine jj_aload_n X d_mo_isIn_27 28 rfl 0 rfl ?_
    refine jj_get (v := .ref (q 2)) X d_mo_isIn_28 31 rfl i_mo 4 f_mo_13 0 rfl rfl (by decide) rfl rfl ?_
    refine jj_bipush (v := 6) X d_mo_isIn_31 33 rfl (by decide) ?_
    refine jj_iload X d_mo_isIn_33 35 rfl 4 rfl ?_
    refine jj_imul X d_mo_isIn_35 36 rfl ?_
    refine jj_topv (y := nI (6 * (A 16 i).toNatClampNeg)) (pk_mul 6 _) ?_
    refine jj_iald (v := A 2 (A 16 i).toNatClampNeg) X d_mo_isIn_36 37 rfl 2 0 rfl rfl (vp_in_nI (by omega) (by omega)) ((ar_cl (by omega)).trans (mxr6_0 _)) ?_
    refine jj_iload_n X d_mo_isIn_37 38 rfl 2 rfl ?_
    refine jj_icmp_ne X d_mo_isIn_38 61 41 (by decide) rfl (fun c38 => ?_) (fun c38 => ?_)
    · refine jj_iconst (v := 0) X d_mo_isIn_61 62 rfl (by decide) ?_
      exact jj_zret X hr hlk d_mo_isIn_62 (rfl) (⟨by simp [pBin, joC, b2, *], rfl⟩)
    · refine jj_aload_n X d_mo_isIn_41 42 rfl 0 rfl ?_
      refine jj_get (v := .ref (q 2)) X d_mo_isIn_42 45 rfl i_mo 4 f_mo_13 0 rfl rfl (by decide) rfl rfl ?_
      refine jj_bipush (v := 6) X d_mo_isIn_45 47 rfl (by decide) ?_
      refine jj_iload X d_mo_isIn_47 49 rfl 4 rfl ?_
      refine jj_imul X d_mo_isIn_49 50 rfl ?_
      refine jj_topv (y := nI (6 * (A 16 i).toNatClampNeg)) (pk_mul 6 _) ?_
      refine jj_iconst (v := 1) X d_mo_isIn_50 51 rfl (by decide) ?_
      refine jj_iadd X d_mo_isIn_51 52 rfl ?_
      refine jj_topv (y := nI (6 * (A 16 i).toNatClampNeg + 1)) (nI_1 _) ?_
      refine jj_iald (v := A 3 (A 16 i).toNatClampNeg) X d_mo_isIn_52 53 rfl 2 0 rfl rfl (vp_in_nI (by omega) (by omega)) ((ar_cl (by omega)).trans (mxr6_1 _)) ?_
      refine jj_iload_n X d_mo_isIn_53 54 rfl 3 rfl ?_
      refine jj_icmp_ne X d_mo_isIn_54 61 57 (by decide) rfl (fun c54 => ?_) (fun c54 => ?_)
      · refine jj_iconst (v := 0) X d_mo_isIn_61 62 rfl (by decide) ?_
        exact jj_zret X hr hlk d_mo_isIn_62 (rfl) (⟨by simp [pBin, joC, b2, *], rfl⟩)
      · refine jj_iconst (v := 1) X d_mo_isIn_57 58 rfl (by decide) ?_
        refine jj_goto X d_mo_isIn_58 62 (by decide) ?_
        exact jj_zret X hr hlk d_mo_isIn_62 (rfl) (⟨by simp [pBin, joC, b2, *], rfl⟩)
set_option maxRecDepth 100000 in
set_option maxHeartbeats 4000000 in
theorem c_mo_tell (l : Launch) (D : va_G) (cI cZ : ClassId) (q : Nat → Nat) (A : Rows) (nT : Nat) (a b : Int32) (hnT : A 0 6 = nI nT) (hlT : nT ≤ 100) : mt_V l D cls_ [(cI, .int), (cZ, .boolean)] nst_ y_mo_tell (Cond.code y_mo_tell b_mo_tell 3 none :: gt_) (rmd 0) [.ref (q 0), .int a, .int b] (mw cI cZ q A) (fun u => u = mw cI cZ q (ua (ua (ua A 0 (uz (A 0) 6 (nI (teN nT)))) 23 (teG nT a (A 23))) 24 (teG nT b (A 24)))) := by
  refine mt_V_of (by decide) (Nat.le_of_ble_eq_true rfl) ?_
  intro p e s m below meth c AA X hr hlk hnm
  refine jj_lve (lv' := [(0, .ref (q 0)), (1, .int a), (2, .int b)]) rfl ?_
  refine jj_aload_n X d_mo_tell_0 1 rfl 0 rfl ?_
  refine jj_get (v := .int (nI nT)) X d_mo_tell_1 4 rfl i_mo 16 f_mo_89 0 rfl rfl (by decide) rfl (by rw [← hnT]; rfl) ?_
  refine jj_bipush (v := 100) X d_mo_tell_4 6 rfl (by decide) ?_
  refine jj_icmp_ge X d_mo_tell_6 45 9 (by decide) rfl (fun c6 => ?_) (fun c6 => ?_)
  · have hnn : ¬ nT < 100 := by have := nI_leD (a := 100) (b := nT) c6 (by omega) (by omega); omega
    exact jj_vret X hr hlk d_mo_tell_45 (by rw [teN, if_neg hnn, teG, if_neg hnn, teG, if_neg hnn, ← hnT]; rfl)
  · have hnn : nT < 100 := nI_nleD (a := 100) (b := nT) c6 (by omega) (by omega)
    refine jj_aload_n X d_mo_tell_9 10 rfl 0 rfl ?_
    refine jj_get (v := .ref (q 9)) X d_mo_tell_10 13 rfl i_mo 15 f_mo_35 0 rfl rfl (by decide) rfl rfl ?_
    refine jj_iconst (v := 2) X d_mo_tell_13 14 rfl (by decide) ?_
    refine jj_aload_n X d_mo_tell_14 15 rfl 0 rfl ?_
    refine jj_get (v := .int (nI nT)) X d_mo_tell_15 18 rfl i_mo 16 f_mo_89 0 rfl rfl (by decide) rfl (by rw [← hnT]; rfl) ?_
    refine jj_imul X d_mo_tell_18 19 rfl ?_
    refine jj_topv (y := nI (2 * nT)) (pk_mul 2 _) ?_
    refine jj_iload_n X d_mo_tell_19 20 rfl 1 rfl ?_
    refine jj_iast (ws' := mw cI cZ q ((ua A 23 (upd (A 23) nT a)))) X d_mo_tell_20 21 rfl 9 0 rfl rfl (vp_in_nI (by omega) (by omega)) (by rw [nI_clamp (by omega)]; exact congrArg (fun z => List.set (mw cI cZ q A) 9 (q 9, .inl (cI, 200, .inl z))) (mxu2_0 _ _)) ?_
    refine jj_aload_n X d_mo_tell_21 22 rfl 0 rfl ?_
    refine jj_get (v := .ref (q 9)) X d_mo_tell_22 25 rfl i_mo 15 f_mo_35 0 rfl rfl (by decide) rfl rfl ?_
    refine jj_iconst (v := 2) X d_mo_tell_25 26 rfl (by decide) ?_
    refine jj_aload_n X d_mo_tell_26 27 rfl 0 rfl ?_
    refine jj_get (v := .int (nI nT)) X d_mo_tell_27 30 rfl i_mo 16 f_mo_89 0 rfl rfl (by decide) rfl (by rw [← hnT]; rfl) ?_
    refine jj_imul X d_mo_tell_30 31 rfl ?_
    refine jj_topv (y := nI (2 * nT)) (pk_mul 2 _) ?_
    refine jj_iconst (v := 1) X d_mo_tell_31 32 rfl (by decide) ?_
    refine jj_iadd X d_mo_tell_32 33 rfl ?_
    refine jj_topv (y := nI (2 * nT + 1)) (nI_1 _) ?_
    refine jj_iload_n X d_mo_tell_33 34 rfl 2 rfl ?_
    refine jj_iast (ws' := mw cI cZ q ((ua (ua A 23 (upd (A 23) nT a)) 24 (upd (A 24) nT b)))) X d_mo_tell_34 35 rfl 9 0 rfl rfl (vp_in_nI (by omega) (by omega)) (by rw [nI_clamp (by omega)]; exact congrArg (fun z => List.set (mw cI cZ q ((ua A 23 (upd (A 23) nT a)))) 9 (q 9, .inl (cI, 200, .inl z))) (mxu2_1 _ _)) ?_
    refine jj_aload_n X d_mo_tell_35 36 rfl 0 rfl ?_
    refine jj_dup X d_mo_tell_36 37 rfl rfl ?_
    refine jj_get (v := .int (nI nT)) X d_mo_tell_37 40 rfl i_mo 16 f_mo_89 0 rfl rfl (by decide) rfl (by rw [← hnT]; rfl) ?_
    refine jj_iconst (v := 1) X d_mo_tell_40 41 rfl (by decide) ?_
    refine jj_iadd X d_mo_tell_41 42 rfl ?_
    refine jj_topv (y := nI (nT + 1)) (nI_1 _) ?_
    refine jj_put (ty := .int) (ws' := mw cI cZ q ((ua (ua (ua A 0 (uz (A 0) 6 (nI (nT + 1)))) 23 (upd (A 23) nT a)) 24 (upd (A 24) nT b)))) X d_mo_tell_42 45 rfl i_mo t_mo t_mo_ok n_mo 16 f_mo_89 0 rfl rfl (by decide) rfl rfl (by decide +kernel) rfl rfl (Nat.le_of_ble_eq_true rfl) rfl ?_
    exact jj_vret X hr hlk d_mo_tell_45 (by rw [teN, if_pos hnn, teG, if_pos hnn, teG, if_pos hnn])
set_option maxRecDepth 100000 in
set_option maxHeartbeats 4000000 in
theorem c_mo_put (l : Launch) (D : va_G) (cI cZ : ClassId) (q : Nat → Nat) (A : Rows) (nL : Nat) (i : Nat) (w : Int32) (hnL : A 0 5 = nI nL) (hlL : nL ≤ 60) (hi : i ≤ 150) : mt_V l D cls_ [(cI, .int), (cZ, .boolean)] nst_ y_mo_put (Cond.code y_mo_put b_mo_put 3 none :: gt_) (rmd 0) [.ref (q 0), .int (nI i), .int w] (mw cI cZ q A) (fun u => u = mw cI cZ q (ua (ua (ua A 17 (upd (A 17) i 1)) 21 (upd (A 21) i (nI nL))) 22 (upd (A 22) i w))) := by
  refine mt_V_of (by decide) (Nat.le_of_ble_eq_true rfl) ?_
  intro p e s m below meth c AA X hr hlk hnm
  refine jj_lve (lv' := [(0, .ref (q 0)), (1, .int (nI i)), (2, .int w)]) rfl ?_
  refine jj_aload_n X d_mo_put_0 1 rfl 0 rfl ?_
  refine jj_get (v := .ref (q 8)) X d_mo_put_1 4 rfl i_mo 13 f_mo_32 0 rfl rfl (by decide) rfl rfl ?_
  refine jj_bipush (v := 8) X d_mo_put_4 6 rfl (by decide) ?_
  refine jj_iload_n X d_mo_put_6 7 rfl 1 rfl ?_
  refine jj_imul X d_mo_put_7 8 rfl ?_
  refine jj_topv (y := nI (8 * i)) (pk_mul 8 _) ?_
  refine jj_iconst (v := 2) X d_mo_put_8 9 rfl (by decide) ?_
  refine jj_iadd X d_mo_put_9 10 rfl ?_
  refine jj_topv (y := nI (8 * i + 2)) (nI_add _ 2) ?_
  refine jj_iconst (v := 1) X d_mo_put_10 11 rfl (by decide) ?_
  refine jj_iast (ws' := mw cI cZ q ((ua A 17 (upd (A 17) i 1)))) X d_mo_put_11 12 rfl 8 0 rfl rfl (vp_in_nI (by omega) (by omega)) (by rw [nI_clamp (by omega)]; exact congrArg (fun z => List.set (mw cI cZ q A) 8 (q 8, .inl (cI, 1208, .inl z))) (mxu8_2 _ _)) ?_
  refine jj_aload_n X d_mo_put_12 13 rfl 0 rfl ?_
  refine jj_get (v := .ref (q 8)) X d_mo_put_13 16 rfl i_mo 13 f_mo_32 0 rfl rfl (by decide) rfl rfl ?_
  refine jj_bipush (v := 8) X d_mo_put_16 18 rfl (by decide) ?_
  refine jj_iload_n X d_mo_put_18 19 rfl 1 rfl ?_
  refine jj_imul X d_mo_put_19 20 rfl ?_
  refine jj_topv (y := nI (8 * i)) (pk_mul 8 _) ?_
  refine jj_bipush (v := 6) X d_mo_put_20 22 rfl (by decide) ?_
  refine jj_iadd X d_mo_put_22 23 rfl ?_
  refine jj_topv (y := nI (8 * i + 6)) (nI_add _ 6) ?_
  refine jj_aload_n X d_mo_put_23 24 rfl 0 rfl ?_
  refine jj_get (v := .int (nI nL)) X d_mo_put_24 27 rfl i_mo 14 f_mo_92 0 rfl rfl (by decide) rfl (by rw [← hnL]; rfl) ?_
  refine jj_iast (ws' := mw cI cZ q ((ua (ua A 17 (upd (A 17) i 1)) 21 (upd (A 21) i (nI nL))))) X d_mo_put_27 28 rfl 8 0 rfl rfl (vp_in_nI (by omega) (by omega)) (by rw [nI_clamp (by omega)]; exact congrArg (fun z => List.set (mw cI cZ q ((ua A 17 (upd (A 17) i 1)))) 8 (q 8, .inl (cI, 1208, .inl z))) (mxu8_6 _ _)) ?_
  refine jj_aload_n X d_mo_put_28 29 rfl 0 rfl ?_
  refine jj_get (v := .ref (q 8)) X d_mo_put_29 32 rfl i_mo 13 f_mo_32 0 rfl rfl (by decide) rfl rfl ?_
  refine jj_bipush (v := 8) X d_mo_put_32 34 rfl (by decide) ?_
  refine jj_iload_n X d_mo_put_34 35 rfl 1 rfl ?_
  refine jj_imul X d_mo_put_35 36 rfl ?_
  refine jj_topv (y := nI (8 * i)) (pk_mul 8 _) ?_
  refine jj_bipush (v := 7) X d_mo_put_36 38 rfl (by decide) ?_
  refine jj_iadd X d_mo_put_38 39 rfl ?_
  refine jj_topv (y := nI (8 * i + 7)) (nI_add _ 7) ?_
  refine jj_iload_n X d_mo_put_39 40 rfl 2 rfl ?_
  refine jj_iast (ws' := mw cI cZ q ((ua (ua (ua A 17 (upd (A 17) i 1)) 21 (upd (A 21) i (nI nL))) 22 (upd (A 22) i w)))) X d_mo_put_40 41 rfl 8 0 rfl rfl (vp_in_nI (by omega) (by omega)) (by rw [nI_clamp (by omega)]; exact congrArg (fun z => List.set (mw cI cZ q ((ua (ua A 17 (upd (A 17) i 1)) 21 (upd (A 21) i (nI nL))))) 8 (q 8, .inl (cI, 1208, .inl z))) (mxu8_7 _ _)) ?_
  exact jj_vret X hr hlk d_mo_put_41 (rfl)
end
