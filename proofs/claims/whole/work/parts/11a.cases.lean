section LAW
variable {p : Program} {l : Launch} {e : Env} {s : State} {m : MethodId} {args : Array Value} {below : List Frame} {meth : Method} {c : Code} {Q : State → Prop} {D : va_G} {AA : Nat → Prop} {cI cZ cL : ClassId} {q1 q2 : Nat → Nat} {qL b L j a0 : Nat} {xs : Nat → Int32} {A B : Rows} {f : Nat → Int64}
set_option maxRecDepth 100000 in
set_option maxHeartbeats 4000000 in
theorem law_0 (X : jc_X p s m args c b_la_law 7 gt_ "TransitRowsLaw" D cls_ [(cI, .int), (cZ, .boolean), (cL, .long)] nst_ AA) (hX : va_X b L xs s s.heap) (hbl : b < s.heap.size) (hbA : ¬ AA b) (hL : L ≤ 3072) (hj : 6 * j + 6 ≤ L) (hI0 : Iv A B) (h966 : ∀ (A' B' : Rows) (f' : Nat → Int64), Iv A' B' → jc_J p l e room_1 s m args below meth c Q D cls_ AA 7 (44 + (j + 1)) (4287 + 6 * (j + 1)) 966 [(0, .ref b), (1, .ref (q1 0)), (2, .ref (q2 0)), (3, .ref qL), (4, .int (nI (6 * j)))] [] (mw cI cZ q2 B' ++ (tw cI cZ q1 A' ++ [(qL, .inl (cL, 1, .inr (.inl f')))]))) : jc_J p l e room_1 s m args below meth c Q D cls_ AA 7 (44 + j) (4287 + 6 * j) 132 [(0, .ref b), (1, .ref (q1 0)), (2, .ref (q2 0)), (3, .ref qL), (4, .int (nI (6 * j)))] [] (mw cI cZ q2 B ++ (tw cI cZ q1 A ++ [(qL, .inl (cL, 1, .inr (.inl f)))])) := by
  obtain ⟨nP, nR, nX, nC, nS, nL, nT, E, hI⟩ := hI0
  have X2 := jx_2 X
  obtain ⟨ha, hI2⟩ := op_place hI 
  refine jj_aload_n X d_la_law_132 133 rfl 1 rfl ?_
  refine jj_callV (w1 := mw cI cZ q2 B) (w2 := [(qL, .inl (cL, 1, .inr (.inl f)))]) (st := []) X2 d_la_law_133 136 rfl (c_tr_place l D cI cZ q1 A nP   (iv_cP hI) (iv_lP hI)  ) g_la_19 ⟨rfl, w_tr_place⟩ ⟨(Nat.le_of_ble_eq_true rfl), (Nat.le_of_ble_eq_true rfl)⟩ rfl 0 rfl rfl rfl (Nat.le_of_ble_eq_true rfl) ⟨by simp only [rmd, room_1]; omega, by simp only [rmd, room_1]; omega⟩ (fun r1 u1 hu1 => ?_)
  obtain ⟨hr1, rfl⟩ := hu1
  refine jj_aload_n X d_la_law_136 137 rfl 2 rfl ?_
  refine jj_callV (w1 := []) (st := [.int r1]) X2 d_la_law_137 140 rfl (c_mo_place l D cI cZ q2 B nP   (iv_mP hI) (iv_lP hI)  ) g_la_23 ⟨rfl, w_mo_place⟩ ⟨(Nat.le_of_ble_eq_true rfl), (Nat.le_of_ble_eq_true rfl)⟩ rfl 0 rfl rfl rfl (Nat.le_of_ble_eq_true rfl) ⟨by simp only [rmd, room_1]; omega, by simp only [rmd, room_1]; omega⟩ (fun r2 u2 hu2 => ?_)
  obtain ⟨hr2, rfl⟩ := hu2
  refine jj_icmp_eq X d_la_law_140 966 143 (by decide) rfl (fun _ => ?_) (fun c9 => absurd (hr1.trans (ha.trans hr2.symm)) c9)
  refine jj_widen (k' := (44 + (j + 1))) (n' := (4287 + 6 * (j + 1))) (by simp only [rmd]; omega) (by simp only [rmd]; omega) ?_
  exact h966 _ _ _ hI2
set_option maxRecDepth 100000 in
set_option maxHeartbeats 4000000 in
theorem law_1 (X : jc_X p s m args c b_la_law 7 gt_ "TransitRowsLaw" D cls_ [(cI, .int), (cZ, .boolean), (cL, .long)] nst_ AA) (hX : va_X b L xs s s.heap) (hbl : b < s.heap.size) (hbA : ¬ AA b) (hL : L ≤ 3072) (hj : 6 * j + 6 ≤ L) (hI0 : Iv A B) (h966 : ∀ (A' B' : Rows) (f' : Nat → Int64), Iv A' B' → jc_J p l e room_1 s m args below meth c Q D cls_ AA 7 (44 + (j + 1)) (4287 + 6 * (j + 1)) 966 [(0, .ref b), (1, .ref (q1 0)), (2, .ref (q2 0)), (3, .ref qL), (4, .int (nI (6 * j)))] [] (mw cI cZ q2 B' ++ (tw cI cZ q1 A' ++ [(qL, .inl (cL, 1, .inr (.inl f')))]))) : jc_J p l e room_1 s m args below meth c Q D cls_ AA 7 (44 + j) (4287 + 6 * j) 145 [(0, .ref b), (1, .ref (q1 0)), (2, .ref (q2 0)), (3, .ref qL), (4, .int (nI (6 * j)))] [] (mw cI cZ q2 B ++ (tw cI cZ q1 A ++ [(qL, .inl (cL, 1, .inr (.inl f)))])) := by
  obtain ⟨nP, nR, nX, nC, nS, nL, nT, E, hI⟩ := hI0
  have X2 := jx_2 X
  by_cases hz : xs (6 * j + 2) = 0
  · obtain ⟨ha, hI2⟩ := op_open hI (xs (6 * j + 1)) false
    refine jj_aload_n X d_la_law_145 146 rfl 1 rfl ?_
    refine jj_aload_n X d_la_law_146 147 rfl 0 rfl ?_
    refine jj_iload X d_la_law_147 149 rfl 4 rfl ?_
    refine jj_iconst (v := 1) X d_la_law_149 150 rfl (by decide) ?_
    refine jj_iadd X d_la_law_150 151 rfl ?_
    refine jj_topv (y := nI (6 * j + 1)) (nI_1 _) ?_
    refine jj_sld X hX hbl hbA d_la_law_151 152 rfl (vp_in_nI (by omega) (by omega)) ?_
    refine jj_topv (y := xs (6 * j + 1)) (by rw [nI_clamp (by omega)]) ?_
    refine jj_aload_n X d_la_law_152 153 rfl 0 rfl ?_
    refine jj_iload X d_la_law_153 155 rfl 4 rfl ?_
    refine jj_iconst (v := 2) X d_la_law_155 156 rfl (by decide) ?_
    refine jj_iadd X d_la_law_156 157 rfl ?_
    refine jj_topv (y := nI (6 * j + 2)) (nI_add _ 2) ?_
    refine jj_sld X hX hbl hbA d_la_law_157 158 rfl (vp_in_nI (by omega) (by omega)) ?_
    refine jj_topv (y := xs (6 * j + 2)) (by rw [nI_clamp (by omega)]) ?_
    refine jj_if_eq X d_la_law_158 165 161 (by decide) rfl (fun _ => ?_) (fun c9 => absurd hz c9)
    refine jj_iconst (v := 0) X d_la_law_165 166 rfl (by decide) ?_
    refine jj_callV (w1 := mw cI cZ q2 B) (w2 := [(qL, .inl (cL, 1, .inr (.inl f)))]) (st := []) X2 d_la_law_166 169 rfl (c_tr_open l D cI cZ q1 A nP  (xs (6 * j + 1)) false (iv_cP hI) (iv_lP hI) (iv_rgC hI) ) g_la_24 ⟨rfl, w_tr_open⟩ ⟨(Nat.le_of_ble_eq_true rfl), (Nat.le_of_ble_eq_true rfl)⟩ rfl 0 rfl rfl rfl (Nat.le_of_ble_eq_true rfl) ⟨by simp only [rmd, room_1]; omega, by simp only [rmd, room_1]; omega⟩ (fun r1 u1 hu1 => ?_)
    obtain ⟨hr1, rfl⟩ := hu1
    refine jj_aload_n X d_la_law_169 170 rfl 2 rfl ?_
    refine jj_aload_n X d_la_law_170 171 rfl 0 rfl ?_
    refine jj_iload X d_la_law_171 173 rfl 4 rfl ?_
    refine jj_iconst (v := 1) X d_la_law_173 174 rfl (by decide) ?_
    refine jj_iadd X d_la_law_174 175 rfl ?_
    refine jj_topv (y := nI (6 * j + 1)) (nI_1 _) ?_
    refine jj_sld X hX hbl hbA d_la_law_175 176 rfl (vp_in_nI (by omega) (by omega)) ?_
    refine jj_topv (y := xs (6 * j + 1)) (by rw [nI_clamp (by omega)]) ?_
    refine jj_aload_n X d_la_law_176 177 rfl 0 rfl ?_
    refine jj_iload X d_la_law_177 179 rfl 4 rfl ?_
    refine jj_iconst (v := 2) X d_la_law_179 180 rfl (by decide) ?_
    refine jj_iadd X d_la_law_180 181 rfl ?_
    refine jj_topv (y := nI (6 * j + 2)) (nI_add _ 2) ?_
    refine jj_sld X hX hbl hbA d_la_law_181 182 rfl (vp_in_nI (by omega) (by omega)) ?_
    refine jj_topv (y := xs (6 * j + 2)) (by rw [nI_clamp (by omega)]) ?_
    refine jj_if_eq X d_la_law_182 189 185 (by decide) rfl (fun _ => ?_) (fun c9 => absurd hz c9)
    refine jj_iconst (v := 0) X d_la_law_189 190 rfl (by decide) ?_
    refine jj_callV (w1 := []) (st := [.int r1]) X2 d_la_law_190 193 rfl (c_mo_open l D cI cZ q2 B nP  (xs (6 * j + 1)) false (iv_mP hI) (iv_lP hI)  ) g_la_28 ⟨rfl, w_mo_open⟩ ⟨(Nat.le_of_ble_eq_true rfl), (Nat.le_of_ble_eq_true rfl)⟩ rfl 0 rfl rfl rfl (Nat.le_of_ble_eq_true rfl) ⟨by simp only [rmd, room_1]; omega, by simp only [rmd, room_1]; omega⟩ (fun r2 u2 hu2 => ?_)
    obtain ⟨hr2, rfl⟩ := hu2
    refine jj_icmp_eq X d_la_law_193 966 196 (by decide) rfl (fun _ => ?_) (fun c9 => absurd (hr1.trans (ha.trans hr2.symm)) c9)
    refine jj_widen (k' := (44 + (j + 1))) (n' := (4287 + 6 * (j + 1))) (by simp only [rmd]; omega) (by simp only [rmd]; omega) ?_
    exact h966 _ _ _ hI2
  · obtain ⟨ha, hI2⟩ := op_open hI (xs (6 * j + 1)) true
    refine jj_aload_n X d_la_law_145 146 rfl 1 rfl ?_
    refine jj_aload_n X d_la_law_146 147 rfl 0 rfl ?_
    refine jj_iload X d_la_law_147 149 rfl 4 rfl ?_
    refine jj_iconst (v := 1) X d_la_law_149 150 rfl (by decide) ?_
    refine jj_iadd X d_la_law_150 151 rfl ?_
    refine jj_topv (y := nI (6 * j + 1)) (nI_1 _) ?_
    refine jj_sld X hX hbl hbA d_la_law_151 152 rfl (vp_in_nI (by omega) (by omega)) ?_
    refine jj_topv (y := xs (6 * j + 1)) (by rw [nI_clamp (by omega)]) ?_
    refine jj_aload_n X d_la_law_152 153 rfl 0 rfl ?_
    refine jj_iload X d_la_law_153 155 rfl 4 rfl ?_
    refine jj_iconst (v := 2) X d_la_law_155 156 rfl (by decide) ?_
    refine jj_iadd X d_la_law_156 157 rfl ?_
    refine jj_topv (y := nI (6 * j + 2)) (nI_add _ 2) ?_
    refine jj_sld X hX hbl hbA d_la_law_157 158 rfl (vp_in_nI (by omega) (by omega)) ?_
    refine jj_topv (y := xs (6 * j + 2)) (by rw [nI_clamp (by omega)]) ?_
    refine jj_if_eq X d_la_law_158 165 161 (by decide) rfl (fun c9 => absurd c9 hz) (fun _ => ?_)
    refine jj_iconst (v := 1) X d_la_law_161 162 rfl (by decide) ?_
    refine jj_goto X d_la_law_162 166 (by decide) ?_
    refine jj_callV (w1 := mw cI cZ q2 B) (w2 := [(qL, .inl (cL, 1, .inr (.inl f)))]) (st := []) X2 d_la_law_166 169 rfl (c_tr_open l D cI cZ q1 A nP  (xs (6 * j + 1)) true (iv_cP hI) (iv_lP hI) (iv_rgC hI) ) g_la_24 ⟨rfl, w_tr_open⟩ ⟨(Nat.le_of_ble_eq_true rfl), (Nat.le_of_ble_eq_true rfl)⟩ rfl 0 rfl rfl rfl (Nat.le_of_ble_eq_true rfl) ⟨by simp only [rmd, room_1]; omega, by simp only [rmd, room_1]; omega⟩ (fun r1 u1 hu1 => ?_)
    obtain ⟨hr1, rfl⟩ := hu1
    refine jj_aload_n X d_la_law_169 170 rfl 2 rfl ?_
    refine jj_aload_n X d_la_law_170 171 rfl 0 rfl ?_
    refine jj_iload X d_la_law_171 173 rfl 4 rfl ?_
    refine jj_iconst (v := 1) X d_la_law_173 174 rfl (by decide) ?_
    refine jj_iadd X d_la_law_174 175 rfl ?_
    refine jj_topv (y := nI (6 * j + 1)) (nI_1 _) ?_
    refine jj_sld X hX hbl hbA d_la_law_175 176 rfl (vp_in_nI (by omega) (by omega)) ?_
    refine jj_topv (y := xs (6 * j + 1)) (by rw [nI_clamp (by omega)]) ?_
    refine jj_aload_n X d_la_law_176 177 rfl 0 rfl ?_
    refine jj_iload X d_la_law_177 179 rfl 4 rfl ?_
    refine jj_iconst (v := 2) X d_la_law_179 180 rfl (by decide) ?_
    refine jj_iadd X d_la_law_180 181 rfl ?_
    refine jj_topv (y := nI (6 * j + 2)) (nI_add _ 2) ?_
    refine jj_sld X hX hbl hbA d_la_law_181 182 rfl (vp_in_nI (by omega) (by omega)) ?_
    refine jj_topv (y := xs (6 * j + 2)) (by rw [nI_clamp (by omega)]) ?_
    refine jj_if_eq X d_la_law_182 189 185 (by decide) rfl (fun c9 => absurd c9 hz) (fun _ => ?_)
    refine jj_iconst (v := 1) X d_la_law_185 186 rfl (by decide) ?_
    refine jj_goto X d_la_law_186 190 (by decide) ?_
    refine jj_callV (w1 := []) (st := [.int r1]) X2 d_la_law_190 193 rfl (c_mo_open l D cI cZ q2 B nP  (xs (6 * j + 1)) true (iv_mP hI) (iv_lP hI)  ) g_la_28 ⟨rfl, w_mo_open⟩ ⟨(Nat.le_of_ble_eq_true rfl), (Nat.le_of_ble_eq_true rfl)⟩ rfl 0 rfl rfl rfl (Nat.le_of_ble_eq_true rfl) ⟨by simp only [rmd, room_1]; omega, by simp only [rmd, room_1]; omega⟩ (fun r2 u2 hu2 => ?_)
    obtain ⟨hr2, rfl⟩ := hu2
    refine jj_icmp_eq X d_la_law_193 966 196 (by decide) rfl (fun _ => ?_) (fun c9 => absurd (hr1.trans (ha.trans hr2.symm)) c9)
    refine jj_widen (k' := (44 + (j + 1))) (n' := (4287 + 6 * (j + 1))) (by simp only [rmd]; omega) (by simp only [rmd]; omega) ?_
    exact h966 _ _ _ hI2
set_option maxRecDepth 100000 in
set_option maxHeartbeats 4000000 in
theorem law_2 (X : jc_X p s m args c b_la_law 7 gt_ "TransitRowsLaw" D cls_ [(cI, .int), (cZ, .boolean), (cL, .long)] nst_ AA) (hX : va_X b L xs s s.heap) (hbl : b < s.heap.size) (hbA : ¬ AA b) (hL : L ≤ 3072) (hj : 6 * j + 6 ≤ L) (hI0 : Iv A B) (h966 : ∀ (A' B' : Rows) (f' : Nat → Int64), Iv A' B' → jc_J p l e room_1 s m args below meth c Q D cls_ AA 7 (44 + (j + 1)) (4287 + 6 * (j + 1)) 966 [(0, .ref b), (1, .ref (q1 0)), (2, .ref (q2 0)), (3, .ref qL), (4, .int (nI (6 * j)))] [] (mw cI cZ q2 B' ++ (tw cI cZ q1 A' ++ [(qL, .inl (cL, 1, .inr (.inl f')))]))) : jc_J p l e room_1 s m args below meth c Q D cls_ AA 7 (44 + j) (4287 + 6 * j) 198 [(0, .ref b), (1, .ref (q1 0)), (2, .ref (q2 0)), (3, .ref qL), (4, .int (nI (6 * j)))] [] (mw cI cZ q2 B ++ (tw cI cZ q1 A ++ [(qL, .inl (cL, 1, .inr (.inl f)))])) := by
  obtain ⟨nP, nR, nX, nC, nS, nL, nT, E, hI⟩ := hI0
  have X2 := jx_2 X
  obtain ⟨ha, hI2⟩ := op_route hI (xs (6 * j + 1)) (xs (6 * j + 2)) (xs (6 * j + 3)) (xs (6 * j + 4)) (xs (6 * j + 5))
  refine jj_aload_n X d_la_law_198 199 rfl 1 rfl ?_
  refine jj_aload_n X d_la_law_199 200 rfl 0 rfl ?_
  refine jj_iload X d_la_law_200 202 rfl 4 rfl ?_
  refine jj_iconst (v := 1) X d_la_law_202 203 rfl (by decide) ?_
  refine jj_iadd X d_la_law_203 204 rfl ?_
  refine jj_topv (y := nI (6 * j + 1)) (nI_1 _) ?_
  refine jj_sld X hX hbl hbA d_la_law_204 205 rfl (vp_in_nI (by omega) (by omega)) ?_
  refine jj_topv (y := xs (6 * j + 1)) (by rw [nI_clamp (by omega)]) ?_
  refine jj_aload_n X d_la_law_205 206 rfl 0 rfl ?_
  refine jj_iload X d_la_law_206 208 rfl 4 rfl ?_
  refine jj_iconst (v := 2) X d_la_law_208 209 rfl (by decide) ?_
  refine jj_iadd X d_la_law_209 210 rfl ?_
  refine jj_topv (y := nI (6 * j + 2)) (nI_add _ 2) ?_
  refine jj_sld X hX hbl hbA d_la_law_210 211 rfl (vp_in_nI (by omega) (by omega)) ?_
  refine jj_topv (y := xs (6 * j + 2)) (by rw [nI_clamp (by omega)]) ?_
  refine jj_aload_n X d_la_law_211 212 rfl 0 rfl ?_
  refine jj_iload X d_la_law_212 214 rfl 4 rfl ?_
  refine jj_iconst (v := 3) X d_la_law_214 215 rfl (by decide) ?_
  refine jj_iadd X d_la_law_215 216 rfl ?_
  refine jj_topv (y := nI (6 * j + 3)) (nI_add _ 3) ?_
  refine jj_sld X hX hbl hbA d_la_law_216 217 rfl (vp_in_nI (by omega) (by omega)) ?_
  refine jj_topv (y := xs (6 * j + 3)) (by rw [nI_clamp (by omega)]) ?_
  refine jj_aload_n X d_la_law_217 218 rfl 0 rfl ?_
  refine jj_iload X d_la_law_218 220 rfl 4 rfl ?_
  refine jj_iconst (v := 4) X d_la_law_220 221 rfl (by decide) ?_
  refine jj_iadd X d_la_law_221 222 rfl ?_
  refine jj_topv (y := nI (6 * j + 4)) (nI_add _ 4) ?_
  refine jj_sld X hX hbl hbA d_la_law_222 223 rfl (vp_in_nI (by omega) (by omega)) ?_
  refine jj_topv (y := xs (6 * j + 4)) (by rw [nI_clamp (by omega)]) ?_
  refine jj_aload_n X d_la_law_223 224 rfl 0 rfl ?_
  refine jj_iload X d_la_law_224 226 rfl 4 rfl ?_
  refine jj_iconst (v := 5) X d_la_law_226 227 rfl (by decide) ?_
  refine jj_iadd X d_la_law_227 228 rfl ?_
  refine jj_topv (y := nI (6 * j + 5)) (nI_add _ 5) ?_
  refine jj_sld X hX hbl hbA d_la_law_228 229 rfl (vp_in_nI (by omega) (by omega)) ?_
  refine jj_topv (y := xs (6 * j + 5)) (by rw [nI_clamp (by omega)]) ?_
  refine jj_callV (w1 := mw cI cZ q2 B) (w2 := [(qL, .inl (cL, 1, .inr (.inl f)))]) (st := []) X2 d_la_law_229 232 rfl (c_tr_route l D cI cZ q1 A nP nR  (xs (6 * j + 1)) (xs (6 * j + 2)) (xs (6 * j + 3)) (xs (6 * j + 4)) (xs (6 * j + 5)) (iv_cP hI) (iv_lP hI) (iv_cR hI) (iv_lR hI)  ) g_la_29 ⟨rfl, w_tr_route⟩ ⟨(Nat.le_of_ble_eq_true rfl), (Nat.le_of_ble_eq_true rfl)⟩ rfl 0 rfl rfl rfl (Nat.le_of_ble_eq_true rfl) ⟨by simp only [rmd, room_1]; omega, by simp only [rmd, room_1]; omega⟩ (fun r1 u1 hu1 => ?_)
  obtain ⟨hr1, rfl⟩ := hu1
  refine jj_aload_n X d_la_law_232 233 rfl 2 rfl ?_
  refine jj_aload_n X d_la_law_233 234 rfl 0 rfl ?_
  refine jj_iload X d_la_law_234 236 rfl 4 rfl ?_
  refine jj_iconst (v := 1) X d_la_law_236 237 rfl (by decide) ?_
  refine jj_iadd X d_la_law_237 238 rfl ?_
  refine jj_topv (y := nI (6 * j + 1)) (nI_1 _) ?_
  refine jj_sld X hX hbl hbA d_la_law_238 239 rfl (vp_in_nI (by omega) (by omega)) ?_
  refine jj_topv (y := xs (6 * j + 1)) (by rw [nI_clamp (by omega)]) ?_
  refine jj_aload_n X d_la_law_239 240 rfl 0 rfl ?_
  refine jj_iload X d_la_law_240 242 rfl 4 rfl ?_
  refine jj_iconst (v := 2) X d_la_law_242 243 rfl (by decide) ?_
  refine jj_iadd X d_la_law_243 244 rfl ?_
  refine jj_topv (y := nI (6 * j + 2)) (nI_add _ 2) ?_
  refine jj_sld X hX hbl hbA d_la_law_244 245 rfl (vp_in_nI (by omega) (by omega)) ?_
  refine jj_topv (y := xs (6 * j + 2)) (by rw [nI_clamp (by omega)]) ?_
  refine jj_aload_n X d_la_law_245 246 rfl 0 rfl ?_
  refine jj_iload X d_la_law_246 248 rfl 4 rfl ?_
  refine jj_iconst (v := 3) X d_la_law_248 249 rfl (by decide) ?_
  refine jj_iadd X d_la_law_249 250 rfl ?_
  refine jj_topv (y := nI (6 * j + 3)) (nI_add _ 3) ?_
  refine jj_sld X hX hbl hbA d_la_law_250 251 rfl (vp_in_nI (by omega) (by omega)) ?_
  refine jj_topv (y := xs (6 * j + 3)) (by rw [nI_clamp (by omega)]) ?_
  refine jj_aload_n X d_la_law_251 252 rfl 0 rfl ?_
  refine jj_iload X d_la_law_252 254 rfl 4 rfl ?_
  refine jj_iconst (v := 4) X d_la_law_254 255 rfl (by decide) ?_
  refine jj_iadd X d_la_law_255 256 rfl ?_
  refine jj_topv (y := nI (6 * j + 4)) (nI_add _ 4) ?_
  refine jj_sld X hX hbl hbA d_la_law_256 257 rfl (vp_in_nI (by omega) (by omega)) ?_
  refine jj_topv (y := xs (6 * j + 4)) (by rw [nI_clamp (by omega)]) ?_
  refine jj_aload_n X d_la_law_257 258 rfl 0 rfl ?_
  refine jj_iload X d_la_law_258 260 rfl 4 rfl ?_
  refine jj_iconst (v := 5) X d_la_law_260 261 rfl (by decide) ?_
  refine jj_iadd X d_la_law_261 262 rfl ?_
  refine jj_topv (y := nI (6 * j + 5)) (nI_add _ 5) ?_
  refine jj_sld X hX hbl hbA d_la_law_262 263 rfl (vp_in_nI (by omega) (by omega)) ?_
  refine jj_topv (y := xs (6 * j + 5)) (by rw [nI_clamp (by omega)]) ?_
  refine jj_callV (w1 := []) (st := [.int r1]) X2 d_la_law_263 266 rfl (c_mo_route l D cI cZ q2 B nP nR  (xs (6 * j + 1)) (xs (6 * j + 2)) (xs (6 * j + 3)) (xs (6 * j + 4)) (xs (6 * j + 5)) (iv_mP hI) (iv_lP hI) (iv_mR hI) (iv_lR hI)  ) g_la_33 ⟨rfl, w_mo_route⟩ ⟨(Nat.le_of_ble_eq_true rfl), (Nat.le_of_ble_eq_true rfl)⟩ rfl 0 rfl rfl rfl (Nat.le_of_ble_eq_true rfl) ⟨by simp only [rmd, room_1]; omega, by simp only [rmd, room_1]; omega⟩ (fun r2 u2 hu2 => ?_)
  obtain ⟨hr2, rfl⟩ := hu2
  refine jj_icmp_eq X d_la_law_266 966 269 (by decide) rfl (fun _ => ?_) (fun c9 => absurd (hr1.trans (ha.trans hr2.symm)) c9)
  refine jj_widen (k' := (44 + (j + 1))) (n' := (4287 + 6 * (j + 1))) (by simp only [rmd]; omega) (by simp only [rmd]; omega) ?_
  exact h966 _ _ _ hI2
set_option maxRecDepth 100000 in
set_option maxHeartbeats 4000000 in
theorem law_3 (X : jc_X p s m args c b_la_law 7 gt_ "TransitRowsLaw" D cls_ [(cI, .int), (cZ, .boolean), (cL, .long)] nst_ AA) (hX : va_X b L xs s s.heap) (hbl : b < s.heap.size) (hbA : ¬ AA b) (hL : L ≤ 3072) (hj : 6 * j + 6 ≤ L) (hI0 : Iv A B) (h966 : ∀ (A' B' : Rows) (f' : Nat → Int64), Iv A' B' → jc_J p l e room_1 s m args below meth c Q D cls_ AA 7 (44 + (j + 1)) (4287 + 6 * (j + 1)) 966 [(0, .ref b), (1, .ref (q1 0)), (2, .ref (q2 0)), (3, .ref qL), (4, .int (nI (6 * j)))] [] (mw cI cZ q2 B' ++ (tw cI cZ q1 A' ++ [(qL, .inl (cL, 1, .inr (.inl f')))]))) : jc_J p l e room_1 s m args below meth c Q D cls_ AA 7 (44 + j) (4287 + 6 * j) 271 [(0, .ref b), (1, .ref (q1 0)), (2, .ref (q2 0)), (3, .ref qL), (4, .int (nI (6 * j)))] [] (mw cI cZ q2 B ++ (tw cI cZ q1 A ++ [(qL, .inl (cL, 1, .inr (.inl f)))])) := by
  obtain ⟨nP, nR, nX, nC, nS, nL, nT, E, hI⟩ := hI0
  have X2 := jx_2 X
  by_cases hz : xs (6 * j + 3) = 0
  · obtain ⟨ha, hI2⟩ := op_skip hI (xs (6 * j + 1)) (xs (6 * j + 2)) false
    refine jj_aload_n X d_la_law_271 272 rfl 1 rfl ?_
    refine jj_aload_n X d_la_law_272 273 rfl 0 rfl ?_
    refine jj_iload X d_la_law_273 275 rfl 4 rfl ?_
    refine jj_iconst (v := 1) X d_la_law_275 276 rfl (by decide) ?_
    refine jj_iadd X d_la_law_276 277 rfl ?_
    refine jj_topv (y := nI (6 * j + 1)) (nI_1 _) ?_
    refine jj_sld X hX hbl hbA d_la_law_277 278 rfl (vp_in_nI (by omega) (by omega)) ?_
    refine jj_topv (y := xs (6 * j + 1)) (by rw [nI_clamp (by omega)]) ?_
    refine jj_aload_n X d_la_law_278 279 rfl 0 rfl ?_
    refine jj_iload X d_la_law_279 281 rfl 4 rfl ?_
    refine jj_iconst (v := 2) X d_la_law_281 282 rfl (by decide) ?_
    refine jj_iadd X d_la_law_282 283 rfl ?_
    refine jj_topv (y := nI (6 * j + 2)) (nI_add _ 2) ?_
    refine jj_sld X hX hbl hbA d_la_law_283 284 rfl (vp_in_nI (by omega) (by omega)) ?_
    refine jj_topv (y := xs (6 * j + 2)) (by rw [nI_clamp (by omega)]) ?_
    refine jj_aload_n X d_la_law_284 285 rfl 0 rfl ?_
    refine jj_iload X d_la_law_285 287 rfl 4 rfl ?_
    refine jj_iconst (v := 3) X d_la_law_287 288 rfl (by decide) ?_
    refine jj_iadd X d_la_law_288 289 rfl ?_
    refine jj_topv (y := nI (6 * j + 3)) (nI_add _ 3) ?_
    refine jj_sld X hX hbl hbA d_la_law_289 290 rfl (vp_in_nI (by omega) (by omega)) ?_
    refine jj_topv (y := xs (6 * j + 3)) (by rw [nI_clamp (by omega)]) ?_
    refine jj_if_eq X d_la_law_290 297 293 (by decide) rfl (fun _ => ?_) (fun c9 => absurd hz c9)
    refine jj_iconst (v := 0) X d_la_law_297 298 rfl (by decide) ?_
    refine jj_callV (w1 := mw cI cZ q2 B) (w2 := [(qL, .inl (cL, 1, .inr (.inl f)))]) (st := []) X2 d_la_law_298 301 rfl (c_tr_skip l D cI cZ q1 A nR nX  (xs (6 * j + 1)) (xs (6 * j + 2)) false (iv_cR hI) (iv_lR hI) (iv_cX hI) (iv_lX hI)  ) g_la_34 ⟨rfl, w_tr_skip⟩ ⟨(Nat.le_of_ble_eq_true rfl), (Nat.le_of_ble_eq_true rfl)⟩ rfl 0 rfl rfl rfl (Nat.le_of_ble_eq_true rfl) ⟨by simp only [rmd, room_1]; omega, by simp only [rmd, room_1]; omega⟩ (fun r1 u1 hu1 => ?_)
    obtain ⟨hr1, rfl⟩ := hu1
    refine jj_aload_n X d_la_law_301 302 rfl 2 rfl ?_
    refine jj_aload_n X d_la_law_302 303 rfl 0 rfl ?_
    refine jj_iload X d_la_law_303 305 rfl 4 rfl ?_
    refine jj_iconst (v := 1) X d_la_law_305 306 rfl (by decide) ?_
    refine jj_iadd X d_la_law_306 307 rfl ?_
    refine jj_topv (y := nI (6 * j + 1)) (nI_1 _) ?_
    refine jj_sld X hX hbl hbA d_la_law_307 308 rfl (vp_in_nI (by omega) (by omega)) ?_
    refine jj_topv (y := xs (6 * j + 1)) (by rw [nI_clamp (by omega)]) ?_
    refine jj_aload_n X d_la_law_308 309 rfl 0 rfl ?_
    refine jj_iload X d_la_law_309 311 rfl 4 rfl ?_
    refine jj_iconst (v := 2) X d_la_law_311 312 rfl (by decide) ?_
    refine jj_iadd X d_la_law_312 313 rfl ?_
    refine jj_topv (y := nI (6 * j + 2)) (nI_add _ 2) ?_
    refine jj_sld X hX hbl hbA d_la_law_313 314 rfl (vp_in_nI (by omega) (by omega)) ?_
    refine jj_topv (y := xs (6 * j + 2)) (by rw [nI_clamp (by omega)]) ?_
    refine jj_aload_n X d_la_law_314 315 rfl 0 rfl ?_
    refine jj_iload X d_la_law_315 317 rfl 4 rfl ?_
    refine jj_iconst (v := 3) X d_la_law_317 318 rfl (by decide) ?_
    refine jj_iadd X d_la_law_318 319 rfl ?_
    refine jj_topv (y := nI (6 * j + 3)) (nI_add _ 3) ?_
    refine jj_sld X hX hbl hbA d_la_law_319 320 rfl (vp_in_nI (by omega) (by omega)) ?_
    refine jj_topv (y := xs (6 * j + 3)) (by rw [nI_clamp (by omega)]) ?_
    refine jj_if_eq X d_la_law_320 327 323 (by decide) rfl (fun _ => ?_) (fun c9 => absurd hz c9)
    refine jj_iconst (v := 0) X d_la_law_327 328 rfl (by decide) ?_
    refine jj_callV (w1 := []) (st := [.int r1]) X2 d_la_law_328 331 rfl (c_mo_skip l D cI cZ q2 B nR nX  (xs (6 * j + 1)) (xs (6 * j + 2)) false (iv_mR hI) (iv_lR hI) (iv_mX hI) (iv_lX hI)  ) g_la_38 ⟨rfl, w_mo_skip⟩ ⟨(Nat.le_of_ble_eq_true rfl), (Nat.le_of_ble_eq_true rfl)⟩ rfl 0 rfl rfl rfl (Nat.le_of_ble_eq_true rfl) ⟨by simp only [rmd, room_1]; omega, by simp only [rmd, room_1]; omega⟩ (fun r2 u2 hu2 => ?_)
    obtain ⟨hr2, rfl⟩ := hu2
    refine jj_icmp_eq X d_la_law_331 966 334 (by decide) rfl (fun _ => ?_) (fun c9 => absurd (hr1.trans (ha.trans hr2.symm)) c9)
    refine jj_widen (k' := (44 + (j + 1))) (n' := (4287 + 6 * (j + 1))) (by simp only [rmd]; omega) (by simp only [rmd]; omega) ?_
    exact h966 _ _ _ hI2
  · obtain ⟨ha, hI2⟩ := op_skip hI (xs (6 * j + 1)) (xs (6 * j + 2)) true
    refine jj_aload_n X d_la_law_271 272 rfl 1 rfl ?_
    refine jj_aload_n X d_la_law_272 273 rfl 0 rfl ?_
    refine jj_iload X d_la_law_273 275 rfl 4 rfl ?_
    refine jj_iconst (v := 1) X d_la_law_275 276 rfl (by decide) ?_
    refine jj_iadd X d_la_law_276 277 rfl ?_
    refine jj_topv (y := nI (6 * j + 1)) (nI_1 _) ?_
    refine jj_sld X hX hbl hbA d_la_law_277 278 rfl (vp_in_nI (by omega) (by omega)) ?_
    refine jj_topv (y := xs (6 * j + 1)) (by rw [nI_clamp (by omega)]) ?_
    refine jj_aload_n X d_la_law_278 279 rfl 0 rfl ?_
    refine jj_iload X d_la_law_279 281 rfl 4 rfl ?_
    refine jj_iconst (v := 2) X d_la_law_281 282 rfl (by decide) ?_
    refine jj_iadd X d_la_law_282 283 rfl ?_
    refine jj_topv (y := nI (6 * j + 2)) (nI_add _ 2) ?_
    refine jj_sld X hX hbl hbA d_la_law_283 284 rfl (vp_in_nI (by omega) (by omega)) ?_
    refine jj_topv (y := xs (6 * j + 2)) (by rw [nI_clamp (by omega)]) ?_
    refine jj_aload_n X d_la_law_284 285 rfl 0 rfl ?_
    refine jj_iload X d_la_law_285 287 rfl 4 rfl ?_
    refine jj_iconst (v := 3) X d_la_law_287 288 rfl (by decide) ?_
    refine jj_iadd X d_la_law_288 289 rfl ?_
    refine jj_topv (y := nI (6 * j + 3)) (nI_add _ 3) ?_
    refine jj_sld X hX hbl hbA d_la_law_289 290 rfl (vp_in_nI (by omega) (by omega)) ?_
    refine jj_topv (y := xs (6 * j + 3)) (by rw [nI_clamp (by omega)]) ?_
    refine jj_if_eq X d_la_law_290 297 293 (by decide) rfl (fun c9 => absurd c9 hz) (fun _ => ?_)
    refine jj_iconst (v := 1) X d_la_law_293 294 rfl (by decide) ?_
    refine jj_goto X d_la_law_294 298 (by decide) ?_
    refine jj_callV (w1 := mw cI cZ q2 B) (w2 := [(qL, .inl (cL, 1, .inr (.inl f)))]) (st := []) X2 d_la_law_298 301 rfl (c_tr_skip l D cI cZ q1 A nR nX  (xs (6 * j + 1)) (xs (6 * j + 2)) true (iv_cR hI) (iv_lR hI) (iv_cX hI) (iv_lX hI)  ) g_la_34 ⟨rfl, w_tr_skip⟩ ⟨(Nat.le_of_ble_eq_true rfl), (Nat.le_of_ble_eq_true rfl)⟩ rfl 0 rfl rfl rfl (Nat.le_of_ble_eq_true rfl) ⟨by simp only [rmd, room_1]; omega, by simp only [rmd, room_1]; omega⟩ (fun r1 u1 hu1 => ?_)
    obtain ⟨hr1, rfl⟩ := hu1
    refine jj_aload_n X d_la_law_301 302 rfl 2 rfl ?_
    refine jj_aload_n X d_la_law_302 303 rfl 0 rfl ?_
    refine jj_iload X d_la_law_303 305 rfl 4 rfl ?_
    refine jj_iconst (v := 1) X d_la_law_305 306 rfl (by decide) ?_
    refine jj_iadd X d_la_law_306 307 rfl ?_
    refine jj_topv (y := nI (6 * j + 1)) (nI_1 _) ?_
    refine jj_sld X hX hbl hbA d_la_law_307 308 rfl (vp_in_nI (by omega) (by omega)) ?_
    refine jj_topv (y := xs (6 * j + 1)) (by rw [nI_clamp (by omega)]) ?_
    refine jj_aload_n X d_la_law_308 309 rfl 0 rfl ?_
    refine jj_iload X d_la_law_309 311 rfl 4 rfl ?_
    refine jj_iconst (v := 2) X d_la_law_311 312 rfl (by decide) ?_
    refine jj_iadd X d_la_law_312 313 rfl ?_
    refine jj_topv (y := nI (6 * j + 2)) (nI_add _ 2) ?_
    refine jj_sld X hX hbl hbA d_la_law_313 314 rfl (vp_in_nI (by omega) (by omega)) ?_
    refine jj_topv (y := xs (6 * j + 2)) (by rw [nI_clamp (by omega)]) ?_
    refine jj_aload_n X d_la_law_314 315 rfl 0 rfl ?_
    refine jj_iload X d_la_law_315 317 rfl 4 rfl ?_
    refine jj_iconst (v := 3) X d_la_law_317 318 rfl (by decide) ?_
    refine jj_iadd X d_la_law_318 319 rfl ?_
    refine jj_topv (y := nI (6 * j + 3)) (nI_add _ 3) ?_
    refine jj_sld X hX hbl hbA d_la_law_319 320 rfl (vp_in_nI (by omega) (by omega)) ?_
    refine jj_topv (y := xs (6 * j + 3)) (by rw [nI_clamp (by omega)]) ?_
    refine jj_if_eq X d_la_law_320 327 323 (by decide) rfl (fun c9 => absurd c9 hz) (fun _ => ?_)
    refine jj_iconst (v := 1) X d_la_law_323 324 rfl (by decide) ?_
    refine jj_goto X d_la_law_324 328 (by decide) ?_
    refine jj_callV (w1 := []) (st := [.int r1]) X2 d_la_law_328 331 rfl (c_mo_skip l D cI cZ q2 B nR nX  (xs (6 * j + 1)) (xs (6 * j + 2)) true (iv_mR hI) (iv_lR hI) (iv_mX hI) (iv_lX hI)  ) g_la_38 ⟨rfl, w_mo_skip⟩ ⟨(Nat.le_of_ble_eq_true rfl), (Nat.le_of_ble_eq_true rfl)⟩ rfl 0 rfl rfl rfl (Nat.le_of_ble_eq_true rfl) ⟨by simp only [rmd, room_1]; omega, by simp only [rmd, room_1]; omega⟩ (fun r2 u2 hu2 => ?_)
    obtain ⟨hr2, rfl⟩ := hu2
    refine jj_icmp_eq X d_la_law_331 966 334 (by decide) rfl (fun _ => ?_) (fun c9 => absurd (hr1.trans (ha.trans hr2.symm)) c9)
    refine jj_widen (k' := (44 + (j + 1))) (n' := (4287 + 6 * (j + 1))) (by simp only [rmd]; omega) (by simp only [rmd]; omega) ?_
    exact h966 _ _ _ hI2
set_option maxRecDepth 100000 in
set_option maxHeartbeats 4000000 in
theorem law_4 (X : jc_X p s m args c b_la_law 7 gt_ "TransitRowsLaw" D cls_ [(cI, .int), (cZ, .boolean), (cL, .long)] nst_ AA) (hX : va_X b L xs s s.heap) (hbl : b < s.heap.size) (hbA : ¬ AA b) (hL : L ≤ 3072) (hj : 6 * j + 6 ≤ L) (hI0 : Iv A B) (h966 : ∀ (A' B' : Rows) (f' : Nat → Int64), Iv A' B' → jc_J p l e room_1 s m args below meth c Q D cls_ AA 7 (44 + (j + 1)) (4287 + 6 * (j + 1)) 966 [(0, .ref b), (1, .ref (q1 0)), (2, .ref (q2 0)), (3, .ref qL), (4, .int (nI (6 * j)))] [] (mw cI cZ q2 B' ++ (tw cI cZ q1 A' ++ [(qL, .inl (cL, 1, .inr (.inl f')))]))) : jc_J p l e room_1 s m args below meth c Q D cls_ AA 7 (44 + j) (4287 + 6 * j) 336 [(0, .ref b), (1, .ref (q1 0)), (2, .ref (q2 0)), (3, .ref qL), (4, .int (nI (6 * j)))] [] (mw cI cZ q2 B ++ (tw cI cZ q1 A ++ [(qL, .inl (cL, 1, .inr (.inl f)))])) := by
  obtain ⟨nP, nR, nX, nC, nS, nL, nT, E, hI⟩ := hI0
  have X2 := jx_2 X
  obtain ⟨ha, hI2⟩ := op_copy hI (xs (6 * j + 1))
  refine jj_aload_n X d_la_law_336 337 rfl 1 rfl ?_
  refine jj_aload_n X d_la_law_337 338 rfl 0 rfl ?_
  refine jj_iload X d_la_law_338 340 rfl 4 rfl ?_
  refine jj_iconst (v := 1) X d_la_law_340 341 rfl (by decide) ?_
  refine jj_iadd X d_la_law_341 342 rfl ?_
  refine jj_topv (y := nI (6 * j + 1)) (nI_1 _) ?_
  refine jj_sld X hX hbl hbA d_la_law_342 343 rfl (vp_in_nI (by omega) (by omega)) ?_
  refine jj_topv (y := xs (6 * j + 1)) (by rw [nI_clamp (by omega)]) ?_
  refine jj_callV (w1 := mw cI cZ q2 B) (w2 := [(qL, .inl (cL, 1, .inr (.inl f)))]) (st := []) X2 d_la_law_343 346 rfl (c_tr_copy l D cI cZ q1 A nP nC  (xs (6 * j + 1)) (iv_cP hI) (iv_lP hI) (iv_cC hI) (iv_lC hI)  ) g_la_39 ⟨rfl, w_tr_copy⟩ ⟨(Nat.le_of_ble_eq_true rfl), (Nat.le_of_ble_eq_true rfl)⟩ rfl 0 rfl rfl rfl (Nat.le_of_ble_eq_true rfl) ⟨by simp only [rmd, room_1]; omega, by simp only [rmd, room_1]; omega⟩ (fun r1 u1 hu1 => ?_)
  obtain ⟨hr1, rfl⟩ := hu1
  refine jj_aload_n X d_la_law_346 347 rfl 2 rfl ?_
  refine jj_aload_n X d_la_law_347 348 rfl 0 rfl ?_
  refine jj_iload X d_la_law_348 350 rfl 4 rfl ?_
  refine jj_iconst (v := 1) X d_la_law_350 351 rfl (by decide) ?_
  refine jj_iadd X d_la_law_351 352 rfl ?_
  refine jj_topv (y := nI (6 * j + 1)) (nI_1 _) ?_
  refine jj_sld X hX hbl hbA d_la_law_352 353 rfl (vp_in_nI (by omega) (by omega)) ?_
  refine jj_topv (y := xs (6 * j + 1)) (by rw [nI_clamp (by omega)]) ?_
  refine jj_callV (w1 := []) (st := [.int r1]) X2 d_la_law_353 356 rfl (c_mo_copy l D cI cZ q2 B nP nC  (xs (6 * j + 1)) (iv_mP hI) (iv_lP hI) (iv_mC hI) (iv_lC hI)  ) g_la_43 ⟨rfl, w_mo_copy⟩ ⟨(Nat.le_of_ble_eq_true rfl), (Nat.le_of_ble_eq_true rfl)⟩ rfl 0 rfl rfl rfl (Nat.le_of_ble_eq_true rfl) ⟨by simp only [rmd, room_1]; omega, by simp only [rmd, room_1]; omega⟩ (fun r2 u2 hu2 => ?_)
  obtain ⟨hr2, rfl⟩ := hu2
  refine jj_icmp_eq X d_la_law_356 966 359 (by decide) rfl (fun _ => ?_) (fun c9 => absurd (hr1.trans (ha.trans hr2.symm)) c9)
  refine jj_widen (k' := (44 + (j + 1))) (n' := (4287 + 6 * (j + 1))) (by simp only [rmd]; omega) (by simp only [rmd]; omega) ?_
  exact h966 _ _ _ hI2
set_option maxRecDepth 100000 in
set_option maxHeartbeats 4000000 in
theorem law_5 (X : jc_X p s m args c b_la_law 7 gt_ "TransitRowsLaw" D cls_ [(cI, .int), (cZ, .boolean), (cL, .long)] nst_ AA) (hX : va_X b L xs s s.heap) (hbl : b < s.heap.size) (hbA : ¬ AA b) (hL : L ≤ 3072) (hj : 6 * j + 6 ≤ L) (hI0 : Iv A B) (h966 : ∀ (A' B' : Rows) (f' : Nat → Int64), Iv A' B' → jc_J p l e room_1 s m args below meth c Q D cls_ AA 7 (44 + (j + 1)) (4287 + 6 * (j + 1)) 966 [(0, .ref b), (1, .ref (q1 0)), (2, .ref (q2 0)), (3, .ref qL), (4, .int (nI (6 * j)))] [] (mw cI cZ q2 B' ++ (tw cI cZ q1 A' ++ [(qL, .inl (cL, 1, .inr (.inl f')))]))) : jc_J p l e room_1 s m args below meth c Q D cls_ AA 7 (44 + j) (4287 + 6 * j) 361 [(0, .ref b), (1, .ref (q1 0)), (2, .ref (q2 0)), (3, .ref qL), (4, .int (nI (6 * j)))] [] (mw cI cZ q2 B ++ (tw cI cZ q1 A ++ [(qL, .inl (cL, 1, .inr (.inl f)))])) := by
  obtain ⟨nP, nR, nX, nC, nS, nL, nT, E, hI⟩ := hI0
  have X2 := jx_2 X
  by_cases hz : xs (6 * j + 2) = 0
  · obtain ⟨ha, hI2⟩ := op_priority hI (xs (6 * j + 1)) false
    refine jj_aload_n X d_la_law_361 362 rfl 1 rfl ?_
    refine jj_aload_n X d_la_law_362 363 rfl 0 rfl ?_
    refine jj_iload X d_la_law_363 365 rfl 4 rfl ?_
    refine jj_iconst (v := 1) X d_la_law_365 366 rfl (by decide) ?_
    refine jj_iadd X d_la_law_366 367 rfl ?_
    refine jj_topv (y := nI (6 * j + 1)) (nI_1 _) ?_
    refine jj_sld X hX hbl hbA d_la_law_367 368 rfl (vp_in_nI (by omega) (by omega)) ?_
    refine jj_topv (y := xs (6 * j + 1)) (by rw [nI_clamp (by omega)]) ?_
    refine jj_aload_n X d_la_law_368 369 rfl 0 rfl ?_
    refine jj_iload X d_la_law_369 371 rfl 4 rfl ?_
    refine jj_iconst (v := 2) X d_la_law_371 372 rfl (by decide) ?_
    refine jj_iadd X d_la_law_372 373 rfl ?_
    refine jj_topv (y := nI (6 * j + 2)) (nI_add _ 2) ?_
    refine jj_sld X hX hbl hbA d_la_law_373 374 rfl (vp_in_nI (by omega) (by omega)) ?_
    refine jj_topv (y := xs (6 * j + 2)) (by rw [nI_clamp (by omega)]) ?_
    refine jj_if_eq X d_la_law_374 381 377 (by decide) rfl (fun _ => ?_) (fun c9 => absurd hz c9)
    refine jj_iconst (v := 0) X d_la_law_381 382 rfl (by decide) ?_
    refine jj_callV (w1 := mw cI cZ q2 B) (w2 := [(qL, .inl (cL, 1, .inr (.inl f)))]) (st := []) X2 d_la_law_382 385 rfl (c_tr_priority l D cI cZ q1 A nC  (xs (6 * j + 1)) false (iv_cC hI) (iv_lC hI) (iv_rgC hI) ) g_la_44 ⟨rfl, w_tr_priority⟩ ⟨(Nat.le_of_ble_eq_true rfl), (Nat.le_of_ble_eq_true rfl)⟩ rfl 0 rfl rfl rfl (Nat.le_of_ble_eq_true rfl) ⟨by simp only [rmd, room_1]; omega, by simp only [rmd, room_1]; omega⟩ (fun r1 u1 hu1 => ?_)
    obtain ⟨hr1, rfl⟩ := hu1
    refine jj_aload_n X d_la_law_385 386 rfl 2 rfl ?_
    refine jj_aload_n X d_la_law_386 387 rfl 0 rfl ?_
    refine jj_iload X d_la_law_387 389 rfl 4 rfl ?_
    refine jj_iconst (v := 1) X d_la_law_389 390 rfl (by decide) ?_
    refine jj_iadd X d_la_law_390 391 rfl ?_
    refine jj_topv (y := nI (6 * j + 1)) (nI_1 _) ?_
    refine jj_sld X hX hbl hbA d_la_law_391 392 rfl (vp_in_nI (by omega) (by omega)) ?_
    refine jj_topv (y := xs (6 * j + 1)) (by rw [nI_clamp (by omega)]) ?_
    refine jj_aload_n X d_la_law_392 393 rfl 0 rfl ?_
    refine jj_iload X d_la_law_393 395 rfl 4 rfl ?_
    refine jj_iconst (v := 2) X d_la_law_395 396 rfl (by decide) ?_
    refine jj_iadd X d_la_law_396 397 rfl ?_
    refine jj_topv (y := nI (6 * j + 2)) (nI_add _ 2) ?_
    refine jj_sld X hX hbl hbA d_la_law_397 398 rfl (vp_in_nI (by omega) (by omega)) ?_
    refine jj_topv (y := xs (6 * j + 2)) (by rw [nI_clamp (by omega)]) ?_
    refine jj_if_eq X d_la_law_398 405 401 (by decide) rfl (fun _ => ?_) (fun c9 => absurd hz c9)
    refine jj_iconst (v := 0) X d_la_law_405 406 rfl (by decide) ?_
    refine jj_callV (w1 := []) (st := [.int r1]) X2 d_la_law_406 409 rfl (c_mo_priority l D cI cZ q2 B nC  (xs (6 * j + 1)) false (iv_mC hI) (iv_lC hI) (iv_rgM hI) ) g_la_47 ⟨rfl, w_mo_priority⟩ ⟨(Nat.le_of_ble_eq_true rfl), (Nat.le_of_ble_eq_true rfl)⟩ rfl 0 rfl rfl rfl (Nat.le_of_ble_eq_true rfl) ⟨by simp only [rmd, room_1]; omega, by simp only [rmd, room_1]; omega⟩ (fun r2 u2 hu2 => ?_)
    obtain ⟨hr2, rfl⟩ := hu2
    refine jj_icmp_eq X d_la_law_409 966 412 (by decide) rfl (fun _ => ?_) (fun c9 => absurd (hr1.trans (ha.trans hr2.symm)) c9)
    refine jj_widen (k' := (44 + (j + 1))) (n' := (4287 + 6 * (j + 1))) (by simp only [rmd]; omega) (by simp only [rmd]; omega) ?_
    exact h966 _ _ _ hI2
  · obtain ⟨ha, hI2⟩ := op_priority hI (xs (6 * j + 1)) true
    refine jj_aload_n X d_la_law_361 362 rfl 1 rfl ?_
    refine jj_aload_n X d_la_law_362 363 rfl 0 rfl ?_
    refine jj_iload X d_la_law_363 365 rfl 4 rfl ?_
    refine jj_iconst (v := 1) X d_la_law_365 366 rfl (by decide) ?_
    refine jj_iadd X d_la_law_366 367 rfl ?_
    refine jj_topv (y := nI (6 * j + 1)) (nI_1 _) ?_
    refine jj_sld X hX hbl hbA d_la_law_367 368 rfl (vp_in_nI (by omega) (by omega)) ?_
    refine jj_topv (y := xs (6 * j + 1)) (by rw [nI_clamp (by omega)]) ?_
    refine jj_aload_n X d_la_law_368 369 rfl 0 rfl ?_
    refine jj_iload X d_la_law_369 371 rfl 4 rfl ?_
    refine jj_iconst (v := 2) X d_la_law_371 372 rfl (by decide) ?_
    refine jj_iadd X d_la_law_372 373 rfl ?_
    refine jj_topv (y := nI (6 * j + 2)) (nI_add _ 2) ?_
    refine jj_sld X hX hbl hbA d_la_law_373 374 rfl (vp_in_nI (by omega) (by omega)) ?_
    refine jj_topv (y := xs (6 * j + 2)) (by rw [nI_clamp (by omega)]) ?_
    refine jj_if_eq X d_la_law_374 381 377 (by decide) rfl (fun c9 => absurd c9 hz) (fun _ => ?_)
    refine jj_iconst (v := 1) X d_la_law_377 378 rfl (by decide) ?_
    refine jj_goto X d_la_law_378 382 (by decide) ?_
    refine jj_callV (w1 := mw cI cZ q2 B) (w2 := [(qL, .inl (cL, 1, .inr (.inl f)))]) (st := []) X2 d_la_law_382 385 rfl (c_tr_priority l D cI cZ q1 A nC  (xs (6 * j + 1)) true (iv_cC hI) (iv_lC hI) (iv_rgC hI) ) g_la_44 ⟨rfl, w_tr_priority⟩ ⟨(Nat.le_of_ble_eq_true rfl), (Nat.le_of_ble_eq_true rfl)⟩ rfl 0 rfl rfl rfl (Nat.le_of_ble_eq_true rfl) ⟨by simp only [rmd, room_1]; omega, by simp only [rmd, room_1]; omega⟩ (fun r1 u1 hu1 => ?_)
    obtain ⟨hr1, rfl⟩ := hu1
    refine jj_aload_n X d_la_law_385 386 rfl 2 rfl ?_
    refine jj_aload_n X d_la_law_386 387 rfl 0 rfl ?_
    refine jj_iload X d_la_law_387 389 rfl 4 rfl ?_
    refine jj_iconst (v := 1) X d_la_law_389 390 rfl (by decide) ?_
    refine jj_iadd X d_la_law_390 391 rfl ?_
    refine jj_topv (y := nI (6 * j + 1)) (nI_1 _) ?_
    refine jj_sld X hX hbl hbA d_la_law_391 392 rfl (vp_in_nI (by omega) (by omega)) ?_
    refine jj_topv (y := xs (6 * j + 1)) (by rw [nI_clamp (by omega)]) ?_
    refine jj_aload_n X d_la_law_392 393 rfl 0 rfl ?_
    refine jj_iload X d_la_law_393 395 rfl 4 rfl ?_
    refine jj_iconst (v := 2) X d_la_law_395 396 rfl (by decide) ?_
    refine jj_iadd X d_la_law_396 397 rfl ?_
    refine jj_topv (y := nI (6 * j + 2)) (nI_add _ 2) ?_
    refine jj_sld X hX hbl hbA d_la_law_397 398 rfl (vp_in_nI (by omega) (by omega)) ?_
    refine jj_topv (y := xs (6 * j + 2)) (by rw [nI_clamp (by omega)]) ?_
    refine jj_if_eq X d_la_law_398 405 401 (by decide) rfl (fun c9 => absurd c9 hz) (fun _ => ?_)
    refine jj_iconst (v := 1) X d_la_law_401 402 rfl (by decide) ?_
    refine jj_goto X d_la_law_402 406 (by decide) ?_
    refine jj_callV (w1 := []) (st := [.int r1]) X2 d_la_law_406 409 rfl (c_mo_priority l D cI cZ q2 B nC  (xs (6 * j + 1)) true (iv_mC hI) (iv_lC hI) (iv_rgM hI) ) g_la_47 ⟨rfl, w_mo_priority⟩ ⟨(Nat.le_of_ble_eq_true rfl), (Nat.le_of_ble_eq_true rfl)⟩ rfl 0 rfl rfl rfl (Nat.le_of_ble_eq_true rfl) ⟨by simp only [rmd, room_1]; omega, by simp only [rmd, room_1]; omega⟩ (fun r2 u2 hu2 => ?_)
    obtain ⟨hr2, rfl⟩ := hu2
    refine jj_icmp_eq X d_la_law_409 966 412 (by decide) rfl (fun _ => ?_) (fun c9 => absurd (hr1.trans (ha.trans hr2.symm)) c9)
    refine jj_widen (k' := (44 + (j + 1))) (n' := (4287 + 6 * (j + 1))) (by simp only [rmd]; omega) (by simp only [rmd]; omega) ?_
    exact h966 _ _ _ hI2
set_option maxRecDepth 100000 in
set_option maxHeartbeats 4000000 in
theorem law_6 (X : jc_X p s m args c b_la_law 7 gt_ "TransitRowsLaw" D cls_ [(cI, .int), (cZ, .boolean), (cL, .long)] nst_ AA) (hX : va_X b L xs s s.heap) (hbl : b < s.heap.size) (hbA : ¬ AA b) (hL : L ≤ 3072) (hj : 6 * j + 6 ≤ L) (hI0 : Iv A B) (h966 : ∀ (A' B' : Rows) (f' : Nat → Int64), Iv A' B' → jc_J p l e room_1 s m args below meth c Q D cls_ AA 7 (44 + (j + 1)) (4287 + 6 * (j + 1)) 966 [(0, .ref b), (1, .ref (q1 0)), (2, .ref (q2 0)), (3, .ref qL), (4, .int (nI (6 * j)))] [] (mw cI cZ q2 B' ++ (tw cI cZ q1 A' ++ [(qL, .inl (cL, 1, .inr (.inl f')))]))) : jc_J p l e room_1 s m args below meth c Q D cls_ AA 7 (44 + j) (4287 + 6 * j) 414 [(0, .ref b), (1, .ref (q1 0)), (2, .ref (q2 0)), (3, .ref qL), (4, .int (nI (6 * j)))] [] (mw cI cZ q2 B ++ (tw cI cZ q1 A ++ [(qL, .inl (cL, 1, .inr (.inl f)))])) := by
  obtain ⟨nP, nR, nX, nC, nS, nL, nT, E, hI⟩ := hI0
  have X2 := jx_2 X
  by_cases hz : xs (6 * j + 2) = 0
  · obtain ⟨ha, hI2⟩ := op_floats hI (xs (6 * j + 1)) false
    refine jj_aload_n X d_la_law_414 415 rfl 1 rfl ?_
    refine jj_aload_n X d_la_law_415 416 rfl 0 rfl ?_
    refine jj_iload X d_la_law_416 418 rfl 4 rfl ?_
    refine jj_iconst (v := 1) X d_la_law_418 419 rfl (by decide) ?_
    refine jj_iadd X d_la_law_419 420 rfl ?_
    refine jj_topv (y := nI (6 * j + 1)) (nI_1 _) ?_
    refine jj_sld X hX hbl hbA d_la_law_420 421 rfl (vp_in_nI (by omega) (by omega)) ?_
    refine jj_topv (y := xs (6 * j + 1)) (by rw [nI_clamp (by omega)]) ?_
    refine jj_aload_n X d_la_law_421 422 rfl 0 rfl ?_
    refine jj_iload X d_la_law_422 424 rfl 4 rfl ?_
    refine jj_iconst (v := 2) X d_la_law_424 425 rfl (by decide) ?_
    refine jj_iadd X d_la_law_425 426 rfl ?_
    refine jj_topv (y := nI (6 * j + 2)) (nI_add _ 2) ?_
    refine jj_sld X hX hbl hbA d_la_law_426 427 rfl (vp_in_nI (by omega) (by omega)) ?_
    refine jj_topv (y := xs (6 * j + 2)) (by rw [nI_clamp (by omega)]) ?_
    refine jj_if_eq X d_la_law_427 434 430 (by decide) rfl (fun _ => ?_) (fun c9 => absurd hz c9)
    refine jj_iconst (v := 0) X d_la_law_434 435 rfl (by decide) ?_
    refine jj_callV (w1 := mw cI cZ q2 B) (w2 := [(qL, .inl (cL, 1, .inr (.inl f)))]) (st := []) X2 d_la_law_435 438 rfl (c_tr_floats l D cI cZ q1 A nC  (xs (6 * j + 1)) false (iv_cC hI) (iv_lC hI) (iv_rgC hI) ) g_la_48 ⟨rfl, w_tr_floats⟩ ⟨(Nat.le_of_ble_eq_true rfl), (Nat.le_of_ble_eq_true rfl)⟩ rfl 0 rfl rfl rfl (Nat.le_of_ble_eq_true rfl) ⟨by simp only [rmd, room_1]; omega, by simp only [rmd, room_1]; omega⟩ (fun r1 u1 hu1 => ?_)
    obtain ⟨hr1, rfl⟩ := hu1
    refine jj_aload_n X d_la_law_438 439 rfl 2 rfl ?_
    refine jj_aload_n X d_la_law_439 440 rfl 0 rfl ?_
    refine jj_iload X d_la_law_440 442 rfl 4 rfl ?_
    refine jj_iconst (v := 1) X d_la_law_442 443 rfl (by decide) ?_
    refine jj_iadd X d_la_law_443 444 rfl ?_
    refine jj_topv (y := nI (6 * j + 1)) (nI_1 _) ?_
    refine jj_sld X hX hbl hbA d_la_law_444 445 rfl (vp_in_nI (by omega) (by omega)) ?_
    refine jj_topv (y := xs (6 * j + 1)) (by rw [nI_clamp (by omega)]) ?_
    refine jj_aload_n X d_la_law_445 446 rfl 0 rfl ?_
    refine jj_iload X d_la_law_446 448 rfl 4 rfl ?_
    refine jj_iconst (v := 2) X d_la_law_448 449 rfl (by decide) ?_
    refine jj_iadd X d_la_law_449 450 rfl ?_
    refine jj_topv (y := nI (6 * j + 2)) (nI_add _ 2) ?_
    refine jj_sld X hX hbl hbA d_la_law_450 451 rfl (vp_in_nI (by omega) (by omega)) ?_
    refine jj_topv (y := xs (6 * j + 2)) (by rw [nI_clamp (by omega)]) ?_
    refine jj_if_eq X d_la_law_451 458 454 (by decide) rfl (fun _ => ?_) (fun c9 => absurd hz c9)
    refine jj_iconst (v := 0) X d_la_law_458 459 rfl (by decide) ?_
    refine jj_callV (w1 := []) (st := [.int r1]) X2 d_la_law_459 462 rfl (c_mo_floats l D cI cZ q2 B nC  (xs (6 * j + 1)) false (iv_mC hI) (iv_lC hI) (iv_rgM hI) ) g_la_51 ⟨rfl, w_mo_floats⟩ ⟨(Nat.le_of_ble_eq_true rfl), (Nat.le_of_ble_eq_true rfl)⟩ rfl 0 rfl rfl rfl (Nat.le_of_ble_eq_true rfl) ⟨by simp only [rmd, room_1]; omega, by simp only [rmd, room_1]; omega⟩ (fun r2 u2 hu2 => ?_)
    obtain ⟨hr2, rfl⟩ := hu2
    refine jj_icmp_eq X d_la_law_462 966 465 (by decide) rfl (fun _ => ?_) (fun c9 => absurd (hr1.trans (ha.trans hr2.symm)) c9)
    refine jj_widen (k' := (44 + (j + 1))) (n' := (4287 + 6 * (j + 1))) (by simp only [rmd]; omega) (by simp only [rmd]; omega) ?_
    exact h966 _ _ _ hI2
  · obtain ⟨ha, hI2⟩ := op_floats hI (xs (6 * j + 1)) true
    refine jj_aload_n X d_la_law_414 415 rfl 1 rfl ?_
    refine jj_aload_n X d_la_law_415 416 rfl 0 rfl ?_
    refine jj_iload X d_la_law_416 418 rfl 4 rfl ?_
    refine jj_iconst (v := 1) X d_la_law_418 419 rfl (by decide) ?_
    refine jj_iadd X d_la_law_419 420 rfl ?_
    refine jj_topv (y := nI (6 * j + 1)) (nI_1 _) ?_
    refine jj_sld X hX hbl hbA d_la_law_420 421 rfl (vp_in_nI (by omega) (by omega)) ?_
    refine jj_topv (y := xs (6 * j + 1)) (by rw [nI_clamp (by omega)]) ?_
    refine jj_aload_n X d_la_law_421 422 rfl 0 rfl ?_
    refine jj_iload X d_la_law_422 424 rfl 4 rfl ?_
    refine jj_iconst (v := 2) X d_la_law_424 425 rfl (by decide) ?_
    refine jj_iadd X d_la_law_425 426 rfl ?_
    refine jj_topv (y := nI (6 * j + 2)) (nI_add _ 2) ?_
    refine jj_sld X hX hbl hbA d_la_law_426 427 rfl (vp_in_nI (by omega) (by omega)) ?_
    refine jj_topv (y := xs (6 * j + 2)) (by rw [nI_clamp (by omega)]) ?_
    refine jj_if_eq X d_la_law_427 434 430 (by decide) rfl (fun c9 => absurd c9 hz) (fun _ => ?_)
    refine jj_iconst (v := 1) X d_la_law_430 431 rfl (by decide) ?_
    refine jj_goto X d_la_law_431 435 (by decide) ?_
    refine jj_callV (w1 := mw cI cZ q2 B) (w2 := [(qL, .inl (cL, 1, .inr (.inl f)))]) (st := []) X2 d_la_law_435 438 rfl (c_tr_floats l D cI cZ q1 A nC  (xs (6 * j + 1)) true (iv_cC hI) (iv_lC hI) (iv_rgC hI) ) g_la_48 ⟨rfl, w_tr_floats⟩ ⟨(Nat.le_of_ble_eq_true rfl), (Nat.le_of_ble_eq_true rfl)⟩ rfl 0 rfl rfl rfl (Nat.le_of_ble_eq_true rfl) ⟨by simp only [rmd, room_1]; omega, by simp only [rmd, room_1]; omega⟩ (fun r1 u1 hu1 => ?_)
    obtain ⟨hr1, rfl⟩ := hu1
    refine jj_aload_n X d_la_law_438 439 rfl 2 rfl ?_
    refine jj_aload_n X d_la_law_439 440 rfl 0 rfl ?_
    refine jj_iload X d_la_law_440 442 rfl 4 rfl ?_
    refine jj_iconst (v := 1) X d_la_law_442 443 rfl (by decide) ?_
    refine jj_iadd X d_la_law_443 444 rfl ?_
    refine jj_topv (y := nI (6 * j + 1)) (nI_1 _) ?_
    refine jj_sld X hX hbl hbA d_la_law_444 445 rfl (vp_in_nI (by omega) (by omega)) ?_
    refine jj_topv (y := xs (6 * j + 1)) (by rw [nI_clamp (by omega)]) ?_
    refine jj_aload_n X d_la_law_445 446 rfl 0 rfl ?_
    refine jj_iload X d_la_law_446 448 rfl 4 rfl ?_
    refine jj_iconst (v := 2) X d_la_law_448 449 rfl (by decide) ?_
    refine jj_iadd X d_la_law_449 450 rfl ?_
    refine jj_topv (y := nI (6 * j + 2)) (nI_add _ 2) ?_
    refine jj_sld X hX hbl hbA d_la_law_450 451 rfl (vp_in_nI (by omega) (by omega)) ?_
    refine jj_topv (y := xs (6 * j + 2)) (by rw [nI_clamp (by omega)]) ?_
    refine jj_if_eq X d_la_law_451 458 454 (by decide) rfl (fun c9 => absurd c9 hz) (fun _ => ?_)
    refine jj_iconst (v := 1) X d_la_law_454 455 rfl (by decide) ?_
    refine jj_goto X d_la_law_455 459 (by decide) ?_
    refine jj_callV (w1 := []) (st := [.int r1]) X2 d_la_law_459 462 rfl (c_mo_floats l D cI cZ q2 B nC  (xs (6 * j + 1)) true (iv_mC hI) (iv_lC hI) (iv_rgM hI) ) g_la_51 ⟨rfl, w_mo_floats⟩ ⟨(Nat.le_of_ble_eq_true rfl), (Nat.le_of_ble_eq_true rfl)⟩ rfl 0 rfl rfl rfl (Nat.le_of_ble_eq_true rfl) ⟨by simp only [rmd, room_1]; omega, by simp only [rmd, room_1]; omega⟩ (fun r2 u2 hu2 => ?_)
    obtain ⟨hr2, rfl⟩ := hu2
    refine jj_icmp_eq X d_la_law_462 966 465 (by decide) rfl (fun _ => ?_) (fun c9 => absurd (hr1.trans (ha.trans hr2.symm)) c9)
    refine jj_widen (k' := (44 + (j + 1))) (n' := (4287 + 6 * (j + 1))) (by simp only [rmd]; omega) (by simp only [rmd]; omega) ?_
    exact h966 _ _ _ hI2
set_option maxRecDepth 100000 in
set_option maxHeartbeats 4000000 in
theorem law_7 (X : jc_X p s m args c b_la_law 7 gt_ "TransitRowsLaw" D cls_ [(cI, .int), (cZ, .boolean), (cL, .long)] nst_ AA) (hX : va_X b L xs s s.heap) (hbl : b < s.heap.size) (hbA : ¬ AA b) (hL : L ≤ 3072) (hj : 6 * j + 6 ≤ L) (hI0 : Iv A B) (h966 : ∀ (A' B' : Rows) (f' : Nat → Int64), Iv A' B' → jc_J p l e room_1 s m args below meth c Q D cls_ AA 7 (44 + (j + 1)) (4287 + 6 * (j + 1)) 966 [(0, .ref b), (1, .ref (q1 0)), (2, .ref (q2 0)), (3, .ref qL), (4, .int (nI (6 * j)))] [] (mw cI cZ q2 B' ++ (tw cI cZ q1 A' ++ [(qL, .inl (cL, 1, .inr (.inl f')))]))) : jc_J p l e room_1 s m args below meth c Q D cls_ AA 7 (44 + j) (4287 + 6 * j) 467 [(0, .ref b), (1, .ref (q1 0)), (2, .ref (q2 0)), (3, .ref qL), (4, .int (nI (6 * j)))] [] (mw cI cZ q2 B ++ (tw cI cZ q1 A ++ [(qL, .inl (cL, 1, .inr (.inl f)))])) := by
  obtain ⟨nP, nR, nX, nC, nS, nL, nT, E, hI⟩ := hI0
  have X2 := jx_2 X
  obtain ⟨ha, hI2⟩ := op_send hI (xs (6 * j + 1)) (xs (6 * j + 2)) (xs (6 * j + 3))
  refine jj_aload_n X d_la_law_467 468 rfl 1 rfl ?_
  refine jj_aload_n X d_la_law_468 469 rfl 0 rfl ?_
  refine jj_iload X d_la_law_469 471 rfl 4 rfl ?_
  refine jj_iconst (v := 1) X d_la_law_471 472 rfl (by decide) ?_
  refine jj_iadd X d_la_law_472 473 rfl ?_
  refine jj_topv (y := nI (6 * j + 1)) (nI_1 _) ?_
  refine jj_sld X hX hbl hbA d_la_law_473 474 rfl (vp_in_nI (by omega) (by omega)) ?_
  refine jj_topv (y := xs (6 * j + 1)) (by rw [nI_clamp (by omega)]) ?_
  refine jj_aload_n X d_la_law_474 475 rfl 0 rfl ?_
  refine jj_iload X d_la_law_475 477 rfl 4 rfl ?_
  refine jj_iconst (v := 2) X d_la_law_477 478 rfl (by decide) ?_
  refine jj_iadd X d_la_law_478 479 rfl ?_
  refine jj_topv (y := nI (6 * j + 2)) (nI_add _ 2) ?_
  refine jj_sld X hX hbl hbA d_la_law_479 480 rfl (vp_in_nI (by omega) (by omega)) ?_
  refine jj_topv (y := xs (6 * j + 2)) (by rw [nI_clamp (by omega)]) ?_
  refine jj_aload_n X d_la_law_480 481 rfl 0 rfl ?_
  refine jj_iload X d_la_law_481 483 rfl 4 rfl ?_
  refine jj_iconst (v := 3) X d_la_law_483 484 rfl (by decide) ?_
  refine jj_iadd X d_la_law_484 485 rfl ?_
  refine jj_topv (y := nI (6 * j + 3)) (nI_add _ 3) ?_
  refine jj_sld X hX hbl hbA d_la_law_485 486 rfl (vp_in_nI (by omega) (by omega)) ?_
  refine jj_topv (y := xs (6 * j + 3)) (by rw [nI_clamp (by omega)]) ?_
  refine jj_callV (w1 := mw cI cZ q2 B) (w2 := [(qL, .inl (cL, 1, .inr (.inl f)))]) (st := []) X2 d_la_law_486 489 rfl (c_tr_send l D cI cZ q1 A nP nR nX nC nS  (xs (6 * j + 1)) (xs (6 * j + 2)) (xs (6 * j + 3)) (iv_cP hI) (iv_lP hI) (iv_cR hI) (iv_lR hI) (iv_cX hI) (iv_lX hI) (iv_cC hI) (iv_lC hI) (iv_cS hI) (iv_lS hI) (iv_rgC hI) ) g_la_52 ⟨rfl, w_tr_send⟩ ⟨(Nat.le_of_ble_eq_true rfl), (Nat.le_of_ble_eq_true rfl)⟩ rfl 0 rfl rfl rfl (Nat.le_of_ble_eq_true rfl) ⟨by simp only [rmd, room_1]; omega, by simp only [rmd, room_1]; omega⟩ (fun r1 u1 hu1 => ?_)
  obtain ⟨hr1, rfl⟩ := hu1
  refine jj_aload_n X d_la_law_489 490 rfl 2 rfl ?_
  refine jj_aload_n X d_la_law_490 491 rfl 0 rfl ?_
  refine jj_iload X d_la_law_491 493 rfl 4 rfl ?_
  refine jj_iconst (v := 1) X d_la_law_493 494 rfl (by decide) ?_
  refine jj_iadd X d_la_law_494 495 rfl ?_
  refine jj_topv (y := nI (6 * j + 1)) (nI_1 _) ?_
  refine jj_sld X hX hbl hbA d_la_law_495 496 rfl (vp_in_nI (by omega) (by omega)) ?_
  refine jj_topv (y := xs (6 * j + 1)) (by rw [nI_clamp (by omega)]) ?_
  refine jj_aload_n X d_la_law_496 497 rfl 0 rfl ?_
  refine jj_iload X d_la_law_497 499 rfl 4 rfl ?_
  refine jj_iconst (v := 2) X d_la_law_499 500 rfl (by decide) ?_
  refine jj_iadd X d_la_law_500 501 rfl ?_
  refine jj_topv (y := nI (6 * j + 2)) (nI_add _ 2) ?_
  refine jj_sld X hX hbl hbA d_la_law_501 502 rfl (vp_in_nI (by omega) (by omega)) ?_
  refine jj_topv (y := xs (6 * j + 2)) (by rw [nI_clamp (by omega)]) ?_
  refine jj_aload_n X d_la_law_502 503 rfl 0 rfl ?_
  refine jj_iload X d_la_law_503 505 rfl 4 rfl ?_
  refine jj_iconst (v := 3) X d_la_law_505 506 rfl (by decide) ?_
  refine jj_iadd X d_la_law_506 507 rfl ?_
  refine jj_topv (y := nI (6 * j + 3)) (nI_add _ 3) ?_
  refine jj_sld X hX hbl hbA d_la_law_507 508 rfl (vp_in_nI (by omega) (by omega)) ?_
  refine jj_topv (y := xs (6 * j + 3)) (by rw [nI_clamp (by omega)]) ?_
  refine jj_callV (w1 := []) (st := [.int r1]) X2 d_la_law_508 511 rfl (c_mo_send l D cI cZ q2 B nP nR nX nC nS  (xs (6 * j + 1)) (xs (6 * j + 2)) (xs (6 * j + 3)) (iv_mP hI) (iv_lP hI) (iv_mR hI) (iv_lR hI) (iv_mX hI) (iv_lX hI) (iv_mC hI) (iv_lC hI) (iv_mS hI) (iv_lS hI) (iv_rgM hI) ) g_la_55 ⟨rfl, w_mo_send⟩ ⟨(Nat.le_of_ble_eq_true rfl), (Nat.le_of_ble_eq_true rfl)⟩ rfl 0 rfl rfl rfl (Nat.le_of_ble_eq_true rfl) ⟨by simp only [rmd, room_1]; omega, by simp only [rmd, room_1]; omega⟩ (fun r2 u2 hu2 => ?_)
  obtain ⟨hr2, rfl⟩ := hu2
  refine jj_icmp_eq X d_la_law_511 966 514 (by decide) rfl (fun _ => ?_) (fun c9 => absurd (hr1.trans (ha.trans hr2.symm)) c9)
  refine jj_widen (k' := (44 + (j + 1))) (n' := (4287 + 6 * (j + 1))) (by simp only [rmd]; omega) (by simp only [rmd]; omega) ?_
  exact h966 _ _ _ hI2
set_option maxRecDepth 100000 in
set_option maxHeartbeats 4000000 in
theorem law_8 (X : jc_X p s m args c b_la_law 7 gt_ "TransitRowsLaw" D cls_ [(cI, .int), (cZ, .boolean), (cL, .long)] nst_ AA) (hX : va_X b L xs s s.heap) (hbl : b < s.heap.size) (hbA : ¬ AA b) (hL : L ≤ 3072) (hj : 6 * j + 6 ≤ L) (hI0 : Iv A B) (h966 : ∀ (A' B' : Rows) (f' : Nat → Int64), Iv A' B' → jc_J p l e room_1 s m args below meth c Q D cls_ AA 7 (44 + (j + 1)) (4287 + 6 * (j + 1)) 966 [(0, .ref b), (1, .ref (q1 0)), (2, .ref (q2 0)), (3, .ref qL), (4, .int (nI (6 * j)))] [] (mw cI cZ q2 B' ++ (tw cI cZ q1 A' ++ [(qL, .inl (cL, 1, .inr (.inl f')))]))) : jc_J p l e room_1 s m args below meth c Q D cls_ AA 7 (44 + j) (4287 + 6 * j) 516 [(0, .ref b), (1, .ref (q1 0)), (2, .ref (q2 0)), (3, .ref qL), (4, .int (nI (6 * j)))] [] (mw cI cZ q2 B ++ (tw cI cZ q1 A ++ [(qL, .inl (cL, 1, .inr (.inl f)))])) := by
  obtain ⟨nP, nR, nX, nC, nS, nL, nT, E, hI⟩ := hI0
  have X2 := jx_2 X
  obtain ⟨ha, hI2⟩ := op_back hI (xs (6 * j + 1))
  refine jj_aload_n X d_la_law_516 517 rfl 1 rfl ?_
  refine jj_aload_n X d_la_law_517 518 rfl 0 rfl ?_
  refine jj_iload X d_la_law_518 520 rfl 4 rfl ?_
  refine jj_iconst (v := 1) X d_la_law_520 521 rfl (by decide) ?_
  refine jj_iadd X d_la_law_521 522 rfl ?_
  refine jj_topv (y := nI (6 * j + 1)) (nI_1 _) ?_
  refine jj_sld X hX hbl hbA d_la_law_522 523 rfl (vp_in_nI (by omega) (by omega)) ?_
  refine jj_topv (y := xs (6 * j + 1)) (by rw [nI_clamp (by omega)]) ?_
  refine jj_callV (w1 := mw cI cZ q2 B) (w2 := [(qL, .inl (cL, 1, .inr (.inl f)))]) (st := []) X2 d_la_law_523 526 rfl (c_tr_back l D cI cZ q1 A nS  (xs (6 * j + 1)) (iv_cS hI) (iv_lS hI) (iv_rgC hI) ) g_la_56 ⟨rfl, w_tr_back⟩ ⟨(Nat.le_of_ble_eq_true rfl), (Nat.le_of_ble_eq_true rfl)⟩ rfl 0 rfl rfl rfl (Nat.le_of_ble_eq_true rfl) ⟨by simp only [rmd, room_1]; omega, by simp only [rmd, room_1]; omega⟩ (fun r1 u1 hu1 => ?_)
  obtain ⟨hr1, rfl⟩ := hu1
  refine jj_aload_n X d_la_law_526 527 rfl 2 rfl ?_
  refine jj_aload_n X d_la_law_527 528 rfl 0 rfl ?_
  refine jj_iload X d_la_law_528 530 rfl 4 rfl ?_
  refine jj_iconst (v := 1) X d_la_law_530 531 rfl (by decide) ?_
  refine jj_iadd X d_la_law_531 532 rfl ?_
  refine jj_topv (y := nI (6 * j + 1)) (nI_1 _) ?_
  refine jj_sld X hX hbl hbA d_la_law_532 533 rfl (vp_in_nI (by omega) (by omega)) ?_
  refine jj_topv (y := xs (6 * j + 1)) (by rw [nI_clamp (by omega)]) ?_
  refine jj_callV (w1 := []) (st := [.int r1]) X2 d_la_law_533 536 rfl (c_mo_back l D cI cZ q2 B nS  (xs (6 * j + 1)) (iv_mS hI) (iv_lS hI) (iv_rgM hI) ) g_la_59 ⟨rfl, w_mo_back⟩ ⟨(Nat.le_of_ble_eq_true rfl), (Nat.le_of_ble_eq_true rfl)⟩ rfl 0 rfl rfl rfl (Nat.le_of_ble_eq_true rfl) ⟨by simp only [rmd, room_1]; omega, by simp only [rmd, room_1]; omega⟩ (fun r2 u2 hu2 => ?_)
  obtain ⟨hr2, rfl⟩ := hu2
  refine jj_icmp_eq X d_la_law_536 966 539 (by decide) rfl (fun _ => ?_) (fun c9 => absurd (hr1.trans (ha.trans hr2.symm)) c9)
  refine jj_widen (k' := (44 + (j + 1))) (n' := (4287 + 6 * (j + 1))) (by simp only [rmd]; omega) (by simp only [rmd]; omega) ?_
  exact h966 _ _ _ hI2
set_option maxRecDepth 100000 in
set_option maxHeartbeats 4000000 in
theorem law_9 (X : jc_X p s m args c b_la_law 7 gt_ "TransitRowsLaw" D cls_ [(cI, .int), (cZ, .boolean), (cL, .long)] nst_ AA) (hX : va_X b L xs s s.heap) (hbl : b < s.heap.size) (hbA : ¬ AA b) (hL : L ≤ 3072) (hj : 6 * j + 6 ≤ L) (hI0 : Iv A B) (h966 : ∀ (A' B' : Rows) (f' : Nat → Int64), Iv A' B' → jc_J p l e room_1 s m args below meth c Q D cls_ AA 7 (44 + (j + 1)) (4287 + 6 * (j + 1)) 966 [(0, .ref b), (1, .ref (q1 0)), (2, .ref (q2 0)), (3, .ref qL), (4, .int (nI (6 * j)))] [] (mw cI cZ q2 B' ++ (tw cI cZ q1 A' ++ [(qL, .inl (cL, 1, .inr (.inl f')))]))) : jc_J p l e room_1 s m args below meth c Q D cls_ AA 7 (44 + j) (4287 + 6 * j) 541 [(0, .ref b), (1, .ref (q1 0)), (2, .ref (q2 0)), (3, .ref qL), (4, .int (nI (6 * j)))] [] (mw cI cZ q2 B ++ (tw cI cZ q1 A ++ [(qL, .inl (cL, 1, .inr (.inl f)))])) := by
  obtain ⟨nP, nR, nX, nC, nS, nL, nT, E, hI⟩ := hI0
  have X2 := jx_2 X
  obtain ⟨ha, hI2⟩ := op_bin hI (xs (6 * j + 1)) (xs (6 * j + 2)) (xs (6 * j + 3))
  refine jj_aload_n X d_la_law_541 542 rfl 1 rfl ?_
  refine jj_aload_n X d_la_law_542 543 rfl 0 rfl ?_
  refine jj_iload X d_la_law_543 545 rfl 4 rfl ?_
  refine jj_iconst (v := 1) X d_la_law_545 546 rfl (by decide) ?_
  refine jj_iadd X d_la_law_546 547 rfl ?_
  refine jj_topv (y := nI (6 * j + 1)) (nI_1 _) ?_
  refine jj_sld X hX hbl hbA d_la_law_547 548 rfl (vp_in_nI (by omega) (by omega)) ?_
  refine jj_topv (y := xs (6 * j + 1)) (by rw [nI_clamp (by omega)]) ?_
  refine jj_aload_n X d_la_law_548 549 rfl 0 rfl ?_
  refine jj_iload X d_la_law_549 551 rfl 4 rfl ?_
  refine jj_iconst (v := 2) X d_la_law_551 552 rfl (by decide) ?_
  refine jj_iadd X d_la_law_552 553 rfl ?_
  refine jj_topv (y := nI (6 * j + 2)) (nI_add _ 2) ?_
  refine jj_sld X hX hbl hbA d_la_law_553 554 rfl (vp_in_nI (by omega) (by omega)) ?_
  refine jj_topv (y := xs (6 * j + 2)) (by rw [nI_clamp (by omega)]) ?_
  refine jj_aload_n X d_la_law_554 555 rfl 0 rfl ?_
  refine jj_iload X d_la_law_555 557 rfl 4 rfl ?_
  refine jj_iconst (v := 3) X d_la_law_557 558 rfl (by decide) ?_
  refine jj_iadd X d_la_law_558 559 rfl ?_
  refine jj_topv (y := nI (6 * j + 3)) (nI_add _ 3) ?_
  refine jj_sld X hX hbl hbA d_la_law_559 560 rfl (vp_in_nI (by omega) (by omega)) ?_
  refine jj_topv (y := xs (6 * j + 3)) (by rw [nI_clamp (by omega)]) ?_
  refine jj_callV (w1 := mw cI cZ q2 B) (w2 := [(qL, .inl (cL, 1, .inr (.inl f)))]) (st := []) X2 d_la_law_560 563 rfl (c_tr_bin l D cI cZ q1 A nS  (xs (6 * j + 1)) (xs (6 * j + 2)) (xs (6 * j + 3)) (iv_cS hI) (iv_lS hI) (iv_rgC hI) ) g_la_60 ⟨rfl, w_tr_bin⟩ ⟨(Nat.le_of_ble_eq_true rfl), (Nat.le_of_ble_eq_true rfl)⟩ rfl 0 rfl rfl rfl (Nat.le_of_ble_eq_true rfl) ⟨by simp only [rmd, room_1]; omega, by simp only [rmd, room_1]; omega⟩ (fun r1 u1 hu1 => ?_)
  obtain ⟨hr1, rfl⟩ := hu1
  refine jj_aload_n X d_la_law_563 564 rfl 2 rfl ?_
  refine jj_aload_n X d_la_law_564 565 rfl 0 rfl ?_
  refine jj_iload X d_la_law_565 567 rfl 4 rfl ?_
  refine jj_iconst (v := 1) X d_la_law_567 568 rfl (by decide) ?_
  refine jj_iadd X d_la_law_568 569 rfl ?_
  refine jj_topv (y := nI (6 * j + 1)) (nI_1 _) ?_
  refine jj_sld X hX hbl hbA d_la_law_569 570 rfl (vp_in_nI (by omega) (by omega)) ?_
  refine jj_topv (y := xs (6 * j + 1)) (by rw [nI_clamp (by omega)]) ?_
  refine jj_aload_n X d_la_law_570 571 rfl 0 rfl ?_
  refine jj_iload X d_la_law_571 573 rfl 4 rfl ?_
  refine jj_iconst (v := 2) X d_la_law_573 574 rfl (by decide) ?_
  refine jj_iadd X d_la_law_574 575 rfl ?_
  refine jj_topv (y := nI (6 * j + 2)) (nI_add _ 2) ?_
  refine jj_sld X hX hbl hbA d_la_law_575 576 rfl (vp_in_nI (by omega) (by omega)) ?_
  refine jj_topv (y := xs (6 * j + 2)) (by rw [nI_clamp (by omega)]) ?_
  refine jj_aload_n X d_la_law_576 577 rfl 0 rfl ?_
  refine jj_iload X d_la_law_577 579 rfl 4 rfl ?_
  refine jj_iconst (v := 3) X d_la_law_579 580 rfl (by decide) ?_
  refine jj_iadd X d_la_law_580 581 rfl ?_
  refine jj_topv (y := nI (6 * j + 3)) (nI_add _ 3) ?_
  refine jj_sld X hX hbl hbA d_la_law_581 582 rfl (vp_in_nI (by omega) (by omega)) ?_
  refine jj_topv (y := xs (6 * j + 3)) (by rw [nI_clamp (by omega)]) ?_
  refine jj_callV (w1 := []) (st := [.int r1]) X2 d_la_law_582 585 rfl (c_mo_bin l D cI cZ q2 B nS  (xs (6 * j + 1)) (xs (6 * j + 2)) (xs (6 * j + 3)) (iv_mS hI) (iv_lS hI) (iv_rgM hI) ) g_la_63 ⟨rfl, w_mo_bin⟩ ⟨(Nat.le_of_ble_eq_true rfl), (Nat.le_of_ble_eq_true rfl)⟩ rfl 0 rfl rfl rfl (Nat.le_of_ble_eq_true rfl) ⟨by simp only [rmd, room_1]; omega, by simp only [rmd, room_1]; omega⟩ (fun r2 u2 hu2 => ?_)
  obtain ⟨hr2, rfl⟩ := hu2
  refine jj_icmp_eq X d_la_law_585 966 588 (by decide) rfl (fun _ => ?_) (fun c9 => absurd (hr1.trans (ha.trans hr2.symm)) c9)
  refine jj_widen (k' := (44 + (j + 1))) (n' := (4287 + 6 * (j + 1))) (by simp only [rmd]; omega) (by simp only [rmd]; omega) ?_
  exact h966 _ _ _ hI2
set_option maxRecDepth 100000 in
set_option maxHeartbeats 4000000 in
theorem law_10 (X : jc_X p s m args c b_la_law 7 gt_ "TransitRowsLaw" D cls_ [(cI, .int), (cZ, .boolean), (cL, .long)] nst_ AA) (hX : va_X b L xs s s.heap) (hbl : b < s.heap.size) (hbA : ¬ AA b) (hL : L ≤ 3072) (hj : 6 * j + 6 ≤ L) (hI0 : Iv A B) (h966 : ∀ (A' B' : Rows) (f' : Nat → Int64), Iv A' B' → jc_J p l e room_1 s m args below meth c Q D cls_ AA 7 (44 + (j + 1)) (4287 + 6 * (j + 1)) 966 [(0, .ref b), (1, .ref (q1 0)), (2, .ref (q2 0)), (3, .ref qL), (4, .int (nI (6 * j)))] [] (mw cI cZ q2 B' ++ (tw cI cZ q1 A' ++ [(qL, .inl (cL, 1, .inr (.inl f')))]))) : jc_J p l e room_1 s m args below meth c Q D cls_ AA 7 (44 + j) (4287 + 6 * j) 590 [(0, .ref b), (1, .ref (q1 0)), (2, .ref (q2 0)), (3, .ref qL), (4, .int (nI (6 * j)))] [] (mw cI cZ q2 B ++ (tw cI cZ q1 A ++ [(qL, .inl (cL, 1, .inr (.inl f)))])) := by
  obtain ⟨nP, nR, nX, nC, nS, nL, nT, E, hI⟩ := hI0
  have X2 := jx_2 X
  obtain ⟨rm, n, tk, w, g, h1, h2, h3, h4, h5, h6, h7, h8, h9, ha, hI2⟩ := op_load hI (xs (6 * j + 1)) (xs (6 * j + 2))
  refine jj_aload_n X d_la_law_590 591 rfl 1 rfl ?_
  refine jj_aload_n X d_la_law_591 592 rfl 0 rfl ?_
  refine jj_iload X d_la_law_592 594 rfl 4 rfl ?_
  refine jj_iconst (v := 1) X d_la_law_594 595 rfl (by decide) ?_
  refine jj_iadd X d_la_law_595 596 rfl ?_
  refine jj_topv (y := nI (6 * j + 1)) (nI_1 _) ?_
  refine jj_sld X hX hbl hbA d_la_law_596 597 rfl (vp_in_nI (by omega) (by omega)) ?_
  refine jj_topv (y := xs (6 * j + 1)) (by rw [nI_clamp (by omega)]) ?_
  refine jj_aload_n X d_la_law_597 598 rfl 0 rfl ?_
  refine jj_iload X d_la_law_598 600 rfl 4 rfl ?_
  refine jj_iconst (v := 2) X d_la_law_600 601 rfl (by decide) ?_
  refine jj_iadd X d_la_law_601 602 rfl ?_
  refine jj_topv (y := nI (6 * j + 2)) (nI_add _ 2) ?_
  refine jj_sld X hX hbl hbA d_la_law_602 603 rfl (vp_in_nI (by omega) (by omega)) ?_
  refine jj_topv (y := xs (6 * j + 2)) (by rw [nI_clamp (by omega)]) ?_
  refine jj_callV (w1 := mw cI cZ q2 B) (w2 := [(qL, .inl (cL, 1, .inr (.inl f)))]) (st := []) X2 d_la_law_603 606 rfl (c_tr_load l D cI cZ q1 A nR nX nS nL nT (E nL) rm (xs (6 * j + 1)) (xs (6 * j + 2)) (iv_cR hI) (iv_lR hI) (iv_cX hI) (iv_lX hI) (iv_cS hI) (iv_lS hI) (iv_cL hI) (iv_lL hI) (iv_cT hI) (iv_lT hI) (iv_rgC hI) h4 h5 h1 h3) g_la_64 ⟨rfl, w_tr_load⟩ ⟨(Nat.le_of_ble_eq_true rfl), (Nat.le_of_ble_eq_true rfl)⟩ rfl 0 rfl rfl rfl (Nat.le_of_ble_eq_true rfl) ⟨by simp only [rmd, room_1]; omega, by simp only [rmd, room_1]; omega⟩ (fun r1 u1 hu1 => ?_)
  obtain ⟨hr1, rfl⟩ := hu1
  refine jj_aload_n X d_la_law_606 607 rfl 2 rfl ?_
  refine jj_aload_n X d_la_law_607 608 rfl 0 rfl ?_
  refine jj_iload X d_la_law_608 610 rfl 4 rfl ?_
  refine jj_iconst (v := 1) X d_la_law_610 611 rfl (by decide) ?_
  refine jj_iadd X d_la_law_611 612 rfl ?_
  refine jj_topv (y := nI (6 * j + 1)) (nI_1 _) ?_
  refine jj_sld X hX hbl hbA d_la_law_612 613 rfl (vp_in_nI (by omega) (by omega)) ?_
  refine jj_topv (y := xs (6 * j + 1)) (by rw [nI_clamp (by omega)]) ?_
  refine jj_aload_n X d_la_law_613 614 rfl 0 rfl ?_
  refine jj_iload X d_la_law_614 616 rfl 4 rfl ?_
  refine jj_iconst (v := 2) X d_la_law_616 617 rfl (by decide) ?_
  refine jj_iadd X d_la_law_617 618 rfl ?_
  refine jj_topv (y := nI (6 * j + 2)) (nI_add _ 2) ?_
  refine jj_sld X hX hbl hbA d_la_law_618 619 rfl (vp_in_nI (by omega) (by omega)) ?_
  refine jj_topv (y := xs (6 * j + 2)) (by rw [nI_clamp (by omega)]) ?_
  refine jj_callV (w1 := []) (st := [.int r1]) X2 d_la_law_619 622 rfl (c_mo_load l D cI cZ q2 B nR nX nS nL nT n tk rm w g (xs (6 * j + 1)) (xs (6 * j + 2)) (iv_mR hI) (iv_lR hI) (iv_mX hI) (iv_lX hI) (iv_mS hI) (iv_lS hI) (iv_mL hI) (iv_lL hI) (iv_mT hI) (iv_lT hI) (iv_rgM hI) h2 h3 h6 h7 h8 h9) g_la_68 ⟨rfl, w_mo_load⟩ ⟨(Nat.le_of_ble_eq_true rfl), (Nat.le_of_ble_eq_true rfl)⟩ rfl 0 rfl rfl rfl (Nat.le_of_ble_eq_true rfl) ⟨by simp only [rmd, room_1]; omega, by simp only [rmd, room_1]; omega⟩ (fun r2 u2 hu2 => ?_)
  obtain ⟨hr2, rfl⟩ := hu2
  refine jj_icmp_eq X d_la_law_622 966 625 (by decide) rfl (fun _ => ?_) (fun c9 => absurd (hr1.trans (ha.trans hr2.symm)) c9)
  refine jj_widen (k' := (44 + (j + 1))) (n' := (4287 + 6 * (j + 1))) (by simp only [rmd]; omega) (by simp only [rmd]; omega) ?_
  exact h966 _ _ _ hI2
set_option maxRecDepth 100000 in
set_option maxHeartbeats 4000000 in
theorem law_11 (X : jc_X p s m args c b_la_law 7 gt_ "TransitRowsLaw" D cls_ [(cI, .int), (cZ, .boolean), (cL, .long)] nst_ AA) (hX : va_X b L xs s s.heap) (hbl : b < s.heap.size) (hbA : ¬ AA b) (hL : L ≤ 3072) (hj : 6 * j + 6 ≤ L) (hI0 : Iv A B) (h966 : ∀ (A' B' : Rows) (f' : Nat → Int64), Iv A' B' → jc_J p l e room_1 s m args below meth c Q D cls_ AA 7 (44 + (j + 1)) (4287 + 6 * (j + 1)) 966 [(0, .ref b), (1, .ref (q1 0)), (2, .ref (q2 0)), (3, .ref qL), (4, .int (nI (6 * j)))] [] (mw cI cZ q2 B' ++ (tw cI cZ q1 A' ++ [(qL, .inl (cL, 1, .inr (.inl f')))]))) : jc_J p l e room_1 s m args below meth c Q D cls_ AA 7 (44 + j) (4287 + 6 * j) 627 [(0, .ref b), (1, .ref (q1 0)), (2, .ref (q2 0)), (3, .ref qL), (4, .int (nI (6 * j)))] [] (mw cI cZ q2 B ++ (tw cI cZ q1 A ++ [(qL, .inl (cL, 1, .inr (.inl f)))])) := by
  obtain ⟨nP, nR, nX, nC, nS, nL, nT, E, hI⟩ := hI0
  have X2 := jx_2 X
  have ha := op_loaded hI (xs (6 * j + 1)) (xs (6 * j + 2))
  have hI2 : Iv A (T0 B) := ⟨_, _, _, _, _, _, _, _, iv_T0 hI⟩
  refine jj_aload_n X d_la_law_627 628 rfl 1 rfl ?_
  refine jj_aload_n X d_la_law_628 629 rfl 0 rfl ?_
  refine jj_iload X d_la_law_629 631 rfl 4 rfl ?_
  refine jj_iconst (v := 1) X d_la_law_631 632 rfl (by decide) ?_
  refine jj_iadd X d_la_law_632 633 rfl ?_
  refine jj_topv (y := nI (6 * j + 1)) (nI_1 _) ?_
  refine jj_sld X hX hbl hbA d_la_law_633 634 rfl (vp_in_nI (by omega) (by omega)) ?_
  refine jj_topv (y := xs (6 * j + 1)) (by rw [nI_clamp (by omega)]) ?_
  refine jj_aload_n X d_la_law_634 635 rfl 0 rfl ?_
  refine jj_iload X d_la_law_635 637 rfl 4 rfl ?_
  refine jj_iconst (v := 2) X d_la_law_637 638 rfl (by decide) ?_
  refine jj_iadd X d_la_law_638 639 rfl ?_
  refine jj_topv (y := nI (6 * j + 2)) (nI_add _ 2) ?_
  refine jj_sld X hX hbl hbA d_la_law_639 640 rfl (vp_in_nI (by omega) (by omega)) ?_
  refine jj_topv (y := xs (6 * j + 2)) (by rw [nI_clamp (by omega)]) ?_
  refine jj_callV (w1 := mw cI cZ q2 B) (w2 := [(qL, .inl (cL, 1, .inr (.inl f)))]) (st := []) X2 d_la_law_640 643 rfl (c_tr_loaded l D cI cZ q1 A nL E (xs (6 * j + 1)) (xs (6 * j + 2)) (iv_cL hI) (iv_lL hI)  (iv_en hI)) g_la_69 ⟨rfl, w_tr_loaded⟩ ⟨(Nat.le_of_ble_eq_true rfl), (Nat.le_of_ble_eq_true rfl)⟩ rfl 0 rfl rfl rfl (Nat.le_of_ble_eq_true rfl) ⟨by simp only [rmd, room_1]; omega, by simp only [rmd, room_1]; omega⟩ (fun r1 u1 hu1 => ?_)
  obtain ⟨hr1, rfl⟩ := hu1
  refine jj_aload_n X d_la_law_643 644 rfl 2 rfl ?_
  refine jj_aload_n X d_la_law_644 645 rfl 0 rfl ?_
  refine jj_iload X d_la_law_645 647 rfl 4 rfl ?_
  refine jj_iconst (v := 1) X d_la_law_647 648 rfl (by decide) ?_
  refine jj_iadd X d_la_law_648 649 rfl ?_
  refine jj_topv (y := nI (6 * j + 1)) (nI_1 _) ?_
  refine jj_sld X hX hbl hbA d_la_law_649 650 rfl (vp_in_nI (by omega) (by omega)) ?_
  refine jj_topv (y := xs (6 * j + 1)) (by rw [nI_clamp (by omega)]) ?_
  refine jj_aload_n X d_la_law_650 651 rfl 0 rfl ?_
  refine jj_iload X d_la_law_651 653 rfl 4 rfl ?_
  refine jj_iconst (v := 2) X d_la_law_653 654 rfl (by decide) ?_
  refine jj_iadd X d_la_law_654 655 rfl ?_
  refine jj_topv (y := nI (6 * j + 2)) (nI_add _ 2) ?_
  refine jj_sld X hX hbl hbA d_la_law_655 656 rfl (vp_in_nI (by omega) (by omega)) ?_
  refine jj_topv (y := xs (6 * j + 2)) (by rw [nI_clamp (by omega)]) ?_
  refine jj_callV (w1 := []) (st := [.int r1]) X2 d_la_law_656 659 rfl (c_mo_loaded l D cI cZ q2 B nS  (xs (6 * j + 1)) (xs (6 * j + 2)) (iv_mS hI) (iv_lS hI)  ) g_la_72 ⟨rfl, w_mo_loaded⟩ ⟨(Nat.le_of_ble_eq_true rfl), (Nat.le_of_ble_eq_true rfl)⟩ rfl 0 rfl rfl rfl (Nat.le_of_ble_eq_true rfl) ⟨by simp only [rmd, room_1]; omega, by simp only [rmd, room_1]; omega⟩ (fun r2 u2 hu2 => ?_)
  obtain ⟨hr2, rfl⟩ := hu2
  refine jj_icmp_eq X d_la_law_659 966 662 (by decide) rfl (fun _ => ?_) (fun c9 => absurd (hr1.trans (ha.trans hr2.symm)) c9)
  refine jj_widen (k' := (44 + (j + 1))) (n' := (4287 + 6 * (j + 1))) (by simp only [rmd]; omega) (by simp only [rmd]; omega) ?_
  exact h966 _ _ _ hI2
set_option maxRecDepth 100000 in
set_option maxHeartbeats 4000000 in
theorem law_12 (X : jc_X p s m args c b_la_law 7 gt_ "TransitRowsLaw" D cls_ [(cI, .int), (cZ, .boolean), (cL, .long)] nst_ AA) (hX : va_X b L xs s s.heap) (hbl : b < s.heap.size) (hbA : ¬ AA b) (hL : L ≤ 3072) (hj : 6 * j + 6 ≤ L) (hI0 : Iv A B) (h966 : ∀ (A' B' : Rows) (f' : Nat → Int64), Iv A' B' → jc_J p l e room_1 s m args below meth c Q D cls_ AA 7 (44 + (j + 1)) (4287 + 6 * (j + 1)) 966 [(0, .ref b), (1, .ref (q1 0)), (2, .ref (q2 0)), (3, .ref qL), (4, .int (nI (6 * j)))] [] (mw cI cZ q2 B' ++ (tw cI cZ q1 A' ++ [(qL, .inl (cL, 1, .inr (.inl f')))]))) : jc_J p l e room_1 s m args below meth c Q D cls_ AA 7 (44 + j) (4287 + 6 * j) 664 [(0, .ref b), (1, .ref (q1 0)), (2, .ref (q2 0)), (3, .ref qL), (4, .int (nI (6 * j)))] [] (mw cI cZ q2 B ++ (tw cI cZ q1 A ++ [(qL, .inl (cL, 1, .inr (.inl f)))])) := by
  obtain ⟨nP, nR, nX, nC, nS, nL, nT, E, hI⟩ := hI0
  have X2 := jx_2 X
  have ha := op_missing hI (xs (6 * j + 1)) (xs (6 * j + 2))
  have hI2 : Iv A (T0 B) := ⟨_, _, _, _, _, _, _, _, iv_T0 hI⟩
  refine jj_aload_n X d_la_law_664 665 rfl 1 rfl ?_
  refine jj_aload_n X d_la_law_665 666 rfl 0 rfl ?_
  refine jj_iload X d_la_law_666 668 rfl 4 rfl ?_
  refine jj_iconst (v := 1) X d_la_law_668 669 rfl (by decide) ?_
  refine jj_iadd X d_la_law_669 670 rfl ?_
  refine jj_topv (y := nI (6 * j + 1)) (nI_1 _) ?_
  refine jj_sld X hX hbl hbA d_la_law_670 671 rfl (vp_in_nI (by omega) (by omega)) ?_
  refine jj_topv (y := xs (6 * j + 1)) (by rw [nI_clamp (by omega)]) ?_
  refine jj_aload_n X d_la_law_671 672 rfl 0 rfl ?_
  refine jj_iload X d_la_law_672 674 rfl 4 rfl ?_
  refine jj_iconst (v := 2) X d_la_law_674 675 rfl (by decide) ?_
  refine jj_iadd X d_la_law_675 676 rfl ?_
  refine jj_topv (y := nI (6 * j + 2)) (nI_add _ 2) ?_
  refine jj_sld X hX hbl hbA d_la_law_676 677 rfl (vp_in_nI (by omega) (by omega)) ?_
  refine jj_topv (y := xs (6 * j + 2)) (by rw [nI_clamp (by omega)]) ?_
  refine jj_callV (w1 := mw cI cZ q2 B) (w2 := [(qL, .inl (cL, 1, .inr (.inl f)))]) (st := []) X2 d_la_law_677 680 rfl (c_tr_missing l D cI cZ q1 A nL E (xs (6 * j + 1)) (xs (6 * j + 2)) (iv_cL hI) (iv_lL hI) (iv_rgC hI) (iv_en hI)) g_la_73 ⟨rfl, w_tr_missing⟩ ⟨(Nat.le_of_ble_eq_true rfl), (Nat.le_of_ble_eq_true rfl)⟩ rfl 0 rfl rfl rfl (Nat.le_of_ble_eq_true rfl) ⟨by simp only [rmd, room_1]; omega, by simp only [rmd, room_1]; omega⟩ (fun r1 u1 hu1 => ?_)
  obtain ⟨hr1, rfl⟩ := hu1
  refine jj_aload_n X d_la_law_680 681 rfl 2 rfl ?_
  refine jj_aload_n X d_la_law_681 682 rfl 0 rfl ?_
  refine jj_iload X d_la_law_682 684 rfl 4 rfl ?_
  refine jj_iconst (v := 1) X d_la_law_684 685 rfl (by decide) ?_
  refine jj_iadd X d_la_law_685 686 rfl ?_
  refine jj_topv (y := nI (6 * j + 1)) (nI_1 _) ?_
  refine jj_sld X hX hbl hbA d_la_law_686 687 rfl (vp_in_nI (by omega) (by omega)) ?_
  refine jj_topv (y := xs (6 * j + 1)) (by rw [nI_clamp (by omega)]) ?_
  refine jj_aload_n X d_la_law_687 688 rfl 0 rfl ?_
  refine jj_iload X d_la_law_688 690 rfl 4 rfl ?_
  refine jj_iconst (v := 2) X d_la_law_690 691 rfl (by decide) ?_
  refine jj_iadd X d_la_law_691 692 rfl ?_
  refine jj_topv (y := nI (6 * j + 2)) (nI_add _ 2) ?_
  refine jj_sld X hX hbl hbA d_la_law_692 693 rfl (vp_in_nI (by omega) (by omega)) ?_
  refine jj_topv (y := xs (6 * j + 2)) (by rw [nI_clamp (by omega)]) ?_
  refine jj_callV (w1 := []) (st := [.int r1]) X2 d_la_law_693 696 rfl (c_mo_missing l D cI cZ q2 B nS  (xs (6 * j + 1)) (xs (6 * j + 2)) (iv_mS hI) (iv_lS hI)  ) g_la_76 ⟨rfl, w_mo_missing⟩ ⟨(Nat.le_of_ble_eq_true rfl), (Nat.le_of_ble_eq_true rfl)⟩ rfl 0 rfl rfl rfl (Nat.le_of_ble_eq_true rfl) ⟨by simp only [rmd, room_1]; omega, by simp only [rmd, room_1]; omega⟩ (fun r2 u2 hu2 => ?_)
  obtain ⟨hr2, rfl⟩ := hu2
  refine jj_icmp_eq X d_la_law_696 966 699 (by decide) rfl (fun _ => ?_) (fun c9 => absurd (hr1.trans (ha.trans hr2.symm)) c9)
  refine jj_widen (k' := (44 + (j + 1))) (n' := (4287 + 6 * (j + 1))) (by simp only [rmd]; omega) (by simp only [rmd]; omega) ?_
  exact h966 _ _ _ hI2
set_option maxRecDepth 100000 in
set_option maxHeartbeats 4000000 in
theorem law_13 (X : jc_X p s m args c b_la_law 7 gt_ "TransitRowsLaw" D cls_ [(cI, .int), (cZ, .boolean), (cL, .long)] nst_ AA) (hX : va_X b L xs s s.heap) (hbl : b < s.heap.size) (hbA : ¬ AA b) (hL : L ≤ 3072) (hj : 6 * j + 6 ≤ L) (hI0 : Iv A B) (h966 : ∀ (A' B' : Rows) (f' : Nat → Int64), Iv A' B' → jc_J p l e room_1 s m args below meth c Q D cls_ AA 7 (44 + (j + 1)) (4287 + 6 * (j + 1)) 966 [(0, .ref b), (1, .ref (q1 0)), (2, .ref (q2 0)), (3, .ref qL), (4, .int (nI (6 * j)))] [] (mw cI cZ q2 B' ++ (tw cI cZ q1 A' ++ [(qL, .inl (cL, 1, .inr (.inl f')))]))) : jc_J p l e room_1 s m args below meth c Q D cls_ AA 7 (44 + j) (4287 + 6 * j) 701 [(0, .ref b), (1, .ref (q1 0)), (2, .ref (q2 0)), (3, .ref qL), (4, .int (nI (6 * j)))] [] (mw cI cZ q2 B ++ (tw cI cZ q1 A ++ [(qL, .inl (cL, 1, .inr (.inl f)))])) := by
  obtain ⟨nP, nR, nX, nC, nS, nL, nT, E, hI⟩ := hI0
  have X2 := jx_2 X
  obtain ⟨ha, hI2⟩ := op_arrive hI (xs (6 * j + 1)) (xs (6 * j + 2)) (xs (6 * j + 3))
  refine jj_aload_n X d_la_law_701 702 rfl 1 rfl ?_
  refine jj_aload_n X d_la_law_702 703 rfl 0 rfl ?_
  refine jj_iload X d_la_law_703 705 rfl 4 rfl ?_
  refine jj_iconst (v := 1) X d_la_law_705 706 rfl (by decide) ?_
  refine jj_iadd X d_la_law_706 707 rfl ?_
  refine jj_topv (y := nI (6 * j + 1)) (nI_1 _) ?_
  refine jj_sld X hX hbl hbA d_la_law_707 708 rfl (vp_in_nI (by omega) (by omega)) ?_
  refine jj_topv (y := xs (6 * j + 1)) (by rw [nI_clamp (by omega)]) ?_
  refine jj_aload_n X d_la_law_708 709 rfl 0 rfl ?_
  refine jj_iload X d_la_law_709 711 rfl 4 rfl ?_
  refine jj_iconst (v := 2) X d_la_law_711 712 rfl (by decide) ?_
  refine jj_iadd X d_la_law_712 713 rfl ?_
  refine jj_topv (y := nI (6 * j + 2)) (nI_add _ 2) ?_
  refine jj_sld X hX hbl hbA d_la_law_713 714 rfl (vp_in_nI (by omega) (by omega)) ?_
  refine jj_topv (y := xs (6 * j + 2)) (by rw [nI_clamp (by omega)]) ?_
  refine jj_aload_n X d_la_law_714 715 rfl 0 rfl ?_
  refine jj_iload X d_la_law_715 717 rfl 4 rfl ?_
  refine jj_iconst (v := 3) X d_la_law_717 718 rfl (by decide) ?_
  refine jj_iadd X d_la_law_718 719 rfl ?_
  refine jj_topv (y := nI (6 * j + 3)) (nI_add _ 3) ?_
  refine jj_sld X hX hbl hbA d_la_law_719 720 rfl (vp_in_nI (by omega) (by omega)) ?_
  refine jj_topv (y := xs (6 * j + 3)) (by rw [nI_clamp (by omega)]) ?_
  refine jj_callV (w1 := mw cI cZ q2 B) (w2 := [(qL, .inl (cL, 1, .inr (.inl f)))]) (st := []) X2 d_la_law_720 723 rfl (c_tr_arrive l D cI cZ q1 A nP nS  (xs (6 * j + 1)) (xs (6 * j + 2)) (xs (6 * j + 3)) (iv_cP hI) (iv_lP hI) (iv_cS hI) (iv_lS hI) (iv_rgC hI) ) g_la_77 ⟨rfl, w_tr_arrive⟩ ⟨(Nat.le_of_ble_eq_true rfl), (Nat.le_of_ble_eq_true rfl)⟩ rfl 0 rfl rfl rfl (Nat.le_of_ble_eq_true rfl) ⟨by simp only [rmd, room_1]; omega, by simp only [rmd, room_1]; omega⟩ (fun r1 u1 hu1 => ?_)
  obtain ⟨hr1, rfl⟩ := hu1
  refine jj_aload_n X d_la_law_723 724 rfl 2 rfl ?_
  refine jj_aload_n X d_la_law_724 725 rfl 0 rfl ?_
  refine jj_iload X d_la_law_725 727 rfl 4 rfl ?_
  refine jj_iconst (v := 1) X d_la_law_727 728 rfl (by decide) ?_
  refine jj_iadd X d_la_law_728 729 rfl ?_
  refine jj_topv (y := nI (6 * j + 1)) (nI_1 _) ?_
  refine jj_sld X hX hbl hbA d_la_law_729 730 rfl (vp_in_nI (by omega) (by omega)) ?_
  refine jj_topv (y := xs (6 * j + 1)) (by rw [nI_clamp (by omega)]) ?_
  refine jj_aload_n X d_la_law_730 731 rfl 0 rfl ?_
  refine jj_iload X d_la_law_731 733 rfl 4 rfl ?_
  refine jj_iconst (v := 2) X d_la_law_733 734 rfl (by decide) ?_
  refine jj_iadd X d_la_law_734 735 rfl ?_
  refine jj_topv (y := nI (6 * j + 2)) (nI_add _ 2) ?_
  refine jj_sld X hX hbl hbA d_la_law_735 736 rfl (vp_in_nI (by omega) (by omega)) ?_
  refine jj_topv (y := xs (6 * j + 2)) (by rw [nI_clamp (by omega)]) ?_
  refine jj_aload_n X d_la_law_736 737 rfl 0 rfl ?_
  refine jj_iload X d_la_law_737 739 rfl 4 rfl ?_
  refine jj_iconst (v := 3) X d_la_law_739 740 rfl (by decide) ?_
  refine jj_iadd X d_la_law_740 741 rfl ?_
  refine jj_topv (y := nI (6 * j + 3)) (nI_add _ 3) ?_
  refine jj_sld X hX hbl hbA d_la_law_741 742 rfl (vp_in_nI (by omega) (by omega)) ?_
  refine jj_topv (y := xs (6 * j + 3)) (by rw [nI_clamp (by omega)]) ?_
  refine jj_callV (w1 := []) (st := [.int r1]) X2 d_la_law_742 745 rfl (c_mo_arrive l D cI cZ q2 B nP nS  (xs (6 * j + 1)) (xs (6 * j + 2)) (xs (6 * j + 3)) (iv_mP hI) (iv_lP hI) (iv_mS hI) (iv_lS hI) (iv_rgM hI) ) g_la_80 ⟨rfl, w_mo_arrive⟩ ⟨(Nat.le_of_ble_eq_true rfl), (Nat.le_of_ble_eq_true rfl)⟩ rfl 0 rfl rfl rfl (Nat.le_of_ble_eq_true rfl) ⟨by simp only [rmd, room_1]; omega, by simp only [rmd, room_1]; omega⟩ (fun r2 u2 hu2 => ?_)
  obtain ⟨hr2, rfl⟩ := hu2
  refine jj_icmp_eq X d_la_law_745 966 748 (by decide) rfl (fun _ => ?_) (fun c9 => absurd (hr1.trans (ha.trans hr2.symm)) c9)
  refine jj_widen (k' := (44 + (j + 1))) (n' := (4287 + 6 * (j + 1))) (by simp only [rmd]; omega) (by simp only [rmd]; omega) ?_
  exact h966 _ _ _ hI2
set_option maxRecDepth 100000 in
set_option maxHeartbeats 4000000 in
theorem law_14 (X : jc_X p s m args c b_la_law 7 gt_ "TransitRowsLaw" D cls_ [(cI, .int), (cZ, .boolean), (cL, .long)] nst_ AA) (hX : va_X b L xs s s.heap) (hbl : b < s.heap.size) (hbA : ¬ AA b) (hL : L ≤ 3072) (hj : 6 * j + 6 ≤ L) (hI0 : Iv A B) (h966 : ∀ (A' B' : Rows) (f' : Nat → Int64), Iv A' B' → jc_J p l e room_1 s m args below meth c Q D cls_ AA 7 (44 + (j + 1)) (4287 + 6 * (j + 1)) 966 [(0, .ref b), (1, .ref (q1 0)), (2, .ref (q2 0)), (3, .ref qL), (4, .int (nI (6 * j)))] [] (mw cI cZ q2 B' ++ (tw cI cZ q1 A' ++ [(qL, .inl (cL, 1, .inr (.inl f')))]))) : jc_J p l e room_1 s m args below meth c Q D cls_ AA 7 (44 + j) (4287 + 6 * j) 750 [(0, .ref b), (1, .ref (q1 0)), (2, .ref (q2 0)), (3, .ref qL), (4, .int (nI (6 * j)))] [] (mw cI cZ q2 B ++ (tw cI cZ q1 A ++ [(qL, .inl (cL, 1, .inr (.inl f)))])) := by
  obtain ⟨nP, nR, nX, nC, nS, nL, nT, E, hI⟩ := hI0
  have X2 := jx_2 X
  obtain ⟨ha, hI2⟩ := op_lost hI (xs (6 * j + 1))
  refine jj_aload_n X d_la_law_750 751 rfl 1 rfl ?_
  refine jj_aload_n X d_la_law_751 752 rfl 0 rfl ?_
  refine jj_iload X d_la_law_752 754 rfl 4 rfl ?_
  refine jj_iconst (v := 1) X d_la_law_754 755 rfl (by decide) ?_
  refine jj_iadd X d_la_law_755 756 rfl ?_
  refine jj_topv (y := nI (6 * j + 1)) (nI_1 _) ?_
  refine jj_sld X hX hbl hbA d_la_law_756 757 rfl (vp_in_nI (by omega) (by omega)) ?_
  refine jj_topv (y := xs (6 * j + 1)) (by rw [nI_clamp (by omega)]) ?_
  refine jj_callV (w1 := mw cI cZ q2 B) (w2 := [(qL, .inl (cL, 1, .inr (.inl f)))]) (st := []) X2 d_la_law_757 760 rfl (c_tr_lost l D cI cZ q1 A nS  (xs (6 * j + 1)) (iv_cS hI) (iv_lS hI) (iv_rgC hI) ) g_la_81 ⟨rfl, w_tr_lost⟩ ⟨(Nat.le_of_ble_eq_true rfl), (Nat.le_of_ble_eq_true rfl)⟩ rfl 0 rfl rfl rfl (Nat.le_of_ble_eq_true rfl) ⟨by simp only [rmd, room_1]; omega, by simp only [rmd, room_1]; omega⟩ (fun r1 u1 hu1 => ?_)
  obtain ⟨hr1, rfl⟩ := hu1
  refine jj_aload_n X d_la_law_760 761 rfl 2 rfl ?_
  refine jj_aload_n X d_la_law_761 762 rfl 0 rfl ?_
  refine jj_iload X d_la_law_762 764 rfl 4 rfl ?_
  refine jj_iconst (v := 1) X d_la_law_764 765 rfl (by decide) ?_
  refine jj_iadd X d_la_law_765 766 rfl ?_
  refine jj_topv (y := nI (6 * j + 1)) (nI_1 _) ?_
  refine jj_sld X hX hbl hbA d_la_law_766 767 rfl (vp_in_nI (by omega) (by omega)) ?_
  refine jj_topv (y := xs (6 * j + 1)) (by rw [nI_clamp (by omega)]) ?_
  refine jj_callV (w1 := []) (st := [.int r1]) X2 d_la_law_767 770 rfl (c_mo_lost l D cI cZ q2 B nS  (xs (6 * j + 1)) (iv_mS hI) (iv_lS hI) (iv_rgM hI) ) g_la_84 ⟨rfl, w_mo_lost⟩ ⟨(Nat.le_of_ble_eq_true rfl), (Nat.le_of_ble_eq_true rfl)⟩ rfl 0 rfl rfl rfl (Nat.le_of_ble_eq_true rfl) ⟨by simp only [rmd, room_1]; omega, by simp only [rmd, room_1]; omega⟩ (fun r2 u2 hu2 => ?_)
  obtain ⟨hr2, rfl⟩ := hu2
  refine jj_icmp_eq X d_la_law_770 966 773 (by decide) rfl (fun _ => ?_) (fun c9 => absurd (hr1.trans (ha.trans hr2.symm)) c9)
  refine jj_widen (k' := (44 + (j + 1))) (n' := (4287 + 6 * (j + 1))) (by simp only [rmd]; omega) (by simp only [rmd]; omega) ?_
  exact h966 _ _ _ hI2
set_option maxRecDepth 100000 in
set_option maxHeartbeats 4000000 in
theorem law_15 (X : jc_X p s m args c b_la_law 7 gt_ "TransitRowsLaw" D cls_ [(cI, .int), (cZ, .boolean), (cL, .long)] nst_ AA) (hX : va_X b L xs s s.heap) (hbl : b < s.heap.size) (hbA : ¬ AA b) (hL : L ≤ 3072) (hj : 6 * j + 6 ≤ L) (hI0 : Iv A B) (h966 : ∀ (A' B' : Rows) (f' : Nat → Int64), Iv A' B' → jc_J p l e room_1 s m args below meth c Q D cls_ AA 7 (44 + (j + 1)) (4287 + 6 * (j + 1)) 966 [(0, .ref b), (1, .ref (q1 0)), (2, .ref (q2 0)), (3, .ref qL), (4, .int (nI (6 * j)))] [] (mw cI cZ q2 B' ++ (tw cI cZ q1 A' ++ [(qL, .inl (cL, 1, .inr (.inl f')))]))) : jc_J p l e room_1 s m args below meth c Q D cls_ AA 7 (44 + j) (4287 + 6 * j) 775 [(0, .ref b), (1, .ref (q1 0)), (2, .ref (q2 0)), (3, .ref qL), (4, .int (nI (6 * j)))] [] (mw cI cZ q2 B ++ (tw cI cZ q1 A ++ [(qL, .inl (cL, 1, .inr (.inl f)))])) := by
  obtain ⟨nP, nR, nX, nC, nS, nL, nT, E, hI⟩ := hI0
  have X2 := jx_2 X
  have ha := op_slip hI (xs (6 * j + 1)) (xs (6 * j + 2))
  have hI2 : Iv A (T0 B) := ⟨_, _, _, _, _, _, _, _, iv_T0 hI⟩
  refine jj_aload_n X d_la_law_775 776 rfl 1 rfl ?_
  refine jj_aload_n X d_la_law_776 777 rfl 0 rfl ?_
  refine jj_iload X d_la_law_777 779 rfl 4 rfl ?_
  refine jj_iconst (v := 1) X d_la_law_779 780 rfl (by decide) ?_
  refine jj_iadd X d_la_law_780 781 rfl ?_
  refine jj_topv (y := nI (6 * j + 1)) (nI_1 _) ?_
  refine jj_sld X hX hbl hbA d_la_law_781 782 rfl (vp_in_nI (by omega) (by omega)) ?_
  refine jj_topv (y := xs (6 * j + 1)) (by rw [nI_clamp (by omega)]) ?_
  refine jj_aload_n X d_la_law_782 783 rfl 0 rfl ?_
  refine jj_iload X d_la_law_783 785 rfl 4 rfl ?_
  refine jj_iconst (v := 2) X d_la_law_785 786 rfl (by decide) ?_
  refine jj_iadd X d_la_law_786 787 rfl ?_
  refine jj_topv (y := nI (6 * j + 2)) (nI_add _ 2) ?_
  refine jj_sld X hX hbl hbA d_la_law_787 788 rfl (vp_in_nI (by omega) (by omega)) ?_
  refine jj_topv (y := xs (6 * j + 2)) (by rw [nI_clamp (by omega)]) ?_
  refine jj_callV (w1 := mw cI cZ q2 B) (w2 := [(qL, .inl (cL, 1, .inr (.inl f)))]) (st := []) X2 d_la_law_788 791 rfl (c_tr_slip l D cI cZ q1 A nS  (xs (6 * j + 1)) (xs (6 * j + 2)) (iv_cS hI) (iv_lS hI) (iv_rgC hI) ) g_la_85 ⟨rfl, w_tr_slip⟩ ⟨(Nat.le_of_ble_eq_true rfl), (Nat.le_of_ble_eq_true rfl)⟩ rfl 0 rfl rfl rfl (Nat.le_of_ble_eq_true rfl) ⟨by simp only [rmd, room_1]; omega, by simp only [rmd, room_1]; omega⟩ (fun r1 u1 hu1 => ?_)
  obtain ⟨hr1, rfl⟩ := hu1
  refine jj_aload_n X d_la_law_791 792 rfl 2 rfl ?_
  refine jj_aload_n X d_la_law_792 793 rfl 0 rfl ?_
  refine jj_iload X d_la_law_793 795 rfl 4 rfl ?_
  refine jj_iconst (v := 1) X d_la_law_795 796 rfl (by decide) ?_
  refine jj_iadd X d_la_law_796 797 rfl ?_
  refine jj_topv (y := nI (6 * j + 1)) (nI_1 _) ?_
  refine jj_sld X hX hbl hbA d_la_law_797 798 rfl (vp_in_nI (by omega) (by omega)) ?_
  refine jj_topv (y := xs (6 * j + 1)) (by rw [nI_clamp (by omega)]) ?_
  refine jj_aload_n X d_la_law_798 799 rfl 0 rfl ?_
  refine jj_iload X d_la_law_799 801 rfl 4 rfl ?_
  refine jj_iconst (v := 2) X d_la_law_801 802 rfl (by decide) ?_
  refine jj_iadd X d_la_law_802 803 rfl ?_
  refine jj_topv (y := nI (6 * j + 2)) (nI_add _ 2) ?_
  refine jj_sld X hX hbl hbA d_la_law_803 804 rfl (vp_in_nI (by omega) (by omega)) ?_
  refine jj_topv (y := xs (6 * j + 2)) (by rw [nI_clamp (by omega)]) ?_
  refine jj_callV (w1 := []) (st := [.int r1]) X2 d_la_law_804 807 rfl (c_mo_slip l D cI cZ q2 B nS  (xs (6 * j + 1)) (xs (6 * j + 2)) (iv_mS hI) (iv_lS hI) (iv_rgM hI) ) g_la_88 ⟨rfl, w_mo_slip⟩ ⟨(Nat.le_of_ble_eq_true rfl), (Nat.le_of_ble_eq_true rfl)⟩ rfl 0 rfl rfl rfl (Nat.le_of_ble_eq_true rfl) ⟨by simp only [rmd, room_1]; omega, by simp only [rmd, room_1]; omega⟩ (fun r2 u2 hu2 => ?_)
  obtain ⟨hr2, rfl⟩ := hu2
  refine jj_icmp_eq X d_la_law_807 966 810 (by decide) rfl (fun _ => ?_) (fun c9 => absurd (hr1.trans (ha.trans hr2.symm)) c9)
  refine jj_widen (k' := (44 + (j + 1))) (n' := (4287 + 6 * (j + 1))) (by simp only [rmd]; omega) (by simp only [rmd]; omega) ?_
  exact h966 _ _ _ hI2
set_option maxRecDepth 100000 in
set_option maxHeartbeats 4000000 in
theorem law_16 (X : jc_X p s m args c b_la_law 7 gt_ "TransitRowsLaw" D cls_ [(cI, .int), (cZ, .boolean), (cL, .long)] nst_ AA) (hX : va_X b L xs s s.heap) (hbl : b < s.heap.size) (hbA : ¬ AA b) (hL : L ≤ 3072) (hj : 6 * j + 6 ≤ L) (hI0 : Iv A B) (h966 : ∀ (A' B' : Rows) (f' : Nat → Int64), Iv A' B' → jc_J p l e room_1 s m args below meth c Q D cls_ AA 7 (44 + (j + 1)) (4287 + 6 * (j + 1)) 966 [(0, .ref b), (1, .ref (q1 0)), (2, .ref (q2 0)), (3, .ref qL), (4, .int (nI (6 * j)))] [] (mw cI cZ q2 B' ++ (tw cI cZ q1 A' ++ [(qL, .inl (cL, 1, .inr (.inl f')))]))) : jc_J p l e room_1 s m args below meth c Q D cls_ AA 7 (44 + j) (4287 + 6 * j) 812 [(0, .ref b), (1, .ref (q1 0)), (2, .ref (q2 0)), (3, .ref qL), (4, .int (nI (6 * j)))] [] (mw cI cZ q2 B ++ (tw cI cZ q1 A ++ [(qL, .inl (cL, 1, .inr (.inl f)))])) := by
  obtain ⟨nP, nR, nX, nC, nS, nL, nT, E, hI⟩ := hI0
  have X2 := jx_2 X
  have ha := op_where hI (xs (6 * j + 1)) (xs (6 * j + 2))
  have hI2 : Iv A (T0 B) := ⟨_, _, _, _, _, _, _, _, iv_T0 hI⟩
  refine jj_aload_n X d_la_law_812 813 rfl 1 rfl ?_
  refine jj_aload_n X d_la_law_813 814 rfl 0 rfl ?_
  refine jj_iload X d_la_law_814 816 rfl 4 rfl ?_
  refine jj_iconst (v := 1) X d_la_law_816 817 rfl (by decide) ?_
  refine jj_iadd X d_la_law_817 818 rfl ?_
  refine jj_topv (y := nI (6 * j + 1)) (nI_1 _) ?_
  refine jj_sld X hX hbl hbA d_la_law_818 819 rfl (vp_in_nI (by omega) (by omega)) ?_
  refine jj_topv (y := xs (6 * j + 1)) (by rw [nI_clamp (by omega)]) ?_
  refine jj_aload_n X d_la_law_819 820 rfl 0 rfl ?_
  refine jj_iload X d_la_law_820 822 rfl 4 rfl ?_
  refine jj_iconst (v := 2) X d_la_law_822 823 rfl (by decide) ?_
  refine jj_iadd X d_la_law_823 824 rfl ?_
  refine jj_topv (y := nI (6 * j + 2)) (nI_add _ 2) ?_
  refine jj_sld X hX hbl hbA d_la_law_824 825 rfl (vp_in_nI (by omega) (by omega)) ?_
  refine jj_topv (y := xs (6 * j + 2)) (by rw [nI_clamp (by omega)]) ?_
  refine jj_callV (w1 := mw cI cZ q2 B) (w2 := [(qL, .inl (cL, 1, .inr (.inl f)))]) (st := []) X2 d_la_law_825 828 rfl (c_tr_where l D cI cZ q1 A nC  (xs (6 * j + 1)) (xs (6 * j + 2)) (iv_cC hI) (iv_lC hI)  ) g_la_89 ⟨rfl, w_tr_where⟩ ⟨(Nat.le_of_ble_eq_true rfl), (Nat.le_of_ble_eq_true rfl)⟩ rfl 0 rfl rfl rfl (Nat.le_of_ble_eq_true rfl) ⟨by simp only [rmd, room_1]; omega, by simp only [rmd, room_1]; omega⟩ (fun r1 u1 hu1 => ?_)
  obtain ⟨hr1, rfl⟩ := hu1
  refine jj_aload_n X d_la_law_828 829 rfl 2 rfl ?_
  refine jj_aload_n X d_la_law_829 830 rfl 0 rfl ?_
  refine jj_iload X d_la_law_830 832 rfl 4 rfl ?_
  refine jj_iconst (v := 1) X d_la_law_832 833 rfl (by decide) ?_
  refine jj_iadd X d_la_law_833 834 rfl ?_
  refine jj_topv (y := nI (6 * j + 1)) (nI_1 _) ?_
  refine jj_sld X hX hbl hbA d_la_law_834 835 rfl (vp_in_nI (by omega) (by omega)) ?_
  refine jj_topv (y := xs (6 * j + 1)) (by rw [nI_clamp (by omega)]) ?_
  refine jj_aload_n X d_la_law_835 836 rfl 0 rfl ?_
  refine jj_iload X d_la_law_836 838 rfl 4 rfl ?_
  refine jj_iconst (v := 2) X d_la_law_838 839 rfl (by decide) ?_
  refine jj_iadd X d_la_law_839 840 rfl ?_
  refine jj_topv (y := nI (6 * j + 2)) (nI_add _ 2) ?_
  refine jj_sld X hX hbl hbA d_la_law_840 841 rfl (vp_in_nI (by omega) (by omega)) ?_
  refine jj_topv (y := xs (6 * j + 2)) (by rw [nI_clamp (by omega)]) ?_
  refine jj_callV (w1 := []) (st := [.int r1]) X2 d_la_law_841 844 rfl (c_mo_where l D cI cZ q2 B nC  (xs (6 * j + 1)) (xs (6 * j + 2)) (iv_mC hI) (iv_lC hI)  ) g_la_92 ⟨rfl, w_mo_where⟩ ⟨(Nat.le_of_ble_eq_true rfl), (Nat.le_of_ble_eq_true rfl)⟩ rfl 0 rfl rfl rfl (Nat.le_of_ble_eq_true rfl) ⟨by simp only [rmd, room_1]; omega, by simp only [rmd, room_1]; omega⟩ (fun r2 u2 hu2 => ?_)
  obtain ⟨hr2, rfl⟩ := hu2
  refine jj_icmp_eq X d_la_law_844 966 847 (by decide) rfl (fun _ => ?_) (fun c9 => absurd (hr1.trans (ha.trans hr2.symm)) c9)
  refine jj_widen (k' := (44 + (j + 1))) (n' := (4287 + 6 * (j + 1))) (by simp only [rmd]; omega) (by simp only [rmd]; omega) ?_
  exact h966 _ _ _ hI2
set_option maxRecDepth 100000 in
set_option maxHeartbeats 4000000 in
theorem law_18 (X : jc_X p s m args c b_la_law 7 gt_ "TransitRowsLaw" D cls_ [(cI, .int), (cZ, .boolean), (cL, .long)] nst_ AA) (hX : va_X b L xs s s.heap) (hbl : b < s.heap.size) (hbA : ¬ AA b) (hL : L ≤ 3072) (hj : 6 * j + 6 ≤ L) (hI0 : Iv A B) (h966 : ∀ (A' B' : Rows) (f' : Nat → Int64), Iv A' B' → jc_J p l e room_1 s m args below meth c Q D cls_ AA 7 (44 + (j + 1)) (4287 + 6 * (j + 1)) 966 [(0, .ref b), (1, .ref (q1 0)), (2, .ref (q2 0)), (3, .ref qL), (4, .int (nI (6 * j)))] [] (mw cI cZ q2 B' ++ (tw cI cZ q1 A' ++ [(qL, .inl (cL, 1, .inr (.inl f')))]))) : jc_J p l e room_1 s m args below meth c Q D cls_ AA 7 (44 + j) (4287 + 6 * j) 929 [(0, .ref b), (1, .ref (q1 0)), (2, .ref (q2 0)), (3, .ref qL), (4, .int (nI (6 * j)))] [] (mw cI cZ q2 B ++ (tw cI cZ q1 A ++ [(qL, .inl (cL, 1, .inr (.inl f)))])) := by
  obtain ⟨nP, nR, nX, nC, nS, nL, nT, E, hI⟩ := hI0
  have X2 := jx_2 X
  have ha := op_told hI (xs (6 * j + 1)) (xs (6 * j + 2))
  have hI2 : Iv A (T0 B) := ⟨_, _, _, _, _, _, _, _, iv_T0 hI⟩
  refine jj_aload_n X d_la_law_929 930 rfl 1 rfl ?_
  refine jj_aload_n X d_la_law_930 931 rfl 0 rfl ?_
  refine jj_iload X d_la_law_931 933 rfl 4 rfl ?_
  refine jj_iconst (v := 1) X d_la_law_933 934 rfl (by decide) ?_
  refine jj_iadd X d_la_law_934 935 rfl ?_
  refine jj_topv (y := nI (6 * j + 1)) (nI_1 _) ?_
  refine jj_sld X hX hbl hbA d_la_law_935 936 rfl (vp_in_nI (by omega) (by omega)) ?_
  refine jj_topv (y := xs (6 * j + 1)) (by rw [nI_clamp (by omega)]) ?_
  refine jj_aload_n X d_la_law_936 937 rfl 0 rfl ?_
  refine jj_iload X d_la_law_937 939 rfl 4 rfl ?_
  refine jj_iconst (v := 2) X d_la_law_939 940 rfl (by decide) ?_
  refine jj_iadd X d_la_law_940 941 rfl ?_
  refine jj_topv (y := nI (6 * j + 2)) (nI_add _ 2) ?_
  refine jj_sld X hX hbl hbA d_la_law_941 942 rfl (vp_in_nI (by omega) (by omega)) ?_
  refine jj_topv (y := xs (6 * j + 2)) (by rw [nI_clamp (by omega)]) ?_
  refine jj_callV (w1 := mw cI cZ q2 B) (w2 := [(qL, .inl (cL, 1, .inr (.inl f)))]) (st := []) X2 d_la_law_942 945 rfl (c_tr_told l D cI cZ q1 A nT  (xs (6 * j + 1)) (xs (6 * j + 2)) (iv_cT hI) (iv_lT hI)  ) g_la_102 ⟨rfl, w_tr_told⟩ ⟨(Nat.le_of_ble_eq_true rfl), (Nat.le_of_ble_eq_true rfl)⟩ rfl 0 rfl rfl rfl (Nat.le_of_ble_eq_true rfl) ⟨by simp only [rmd, room_1]; omega, by simp only [rmd, room_1]; omega⟩ (fun r1 u1 hu1 => ?_)
  obtain ⟨hr1, rfl⟩ := hu1
  refine jj_aload_n X d_la_law_945 946 rfl 2 rfl ?_
  refine jj_aload_n X d_la_law_946 947 rfl 0 rfl ?_
  refine jj_iload X d_la_law_947 949 rfl 4 rfl ?_
  refine jj_iconst (v := 1) X d_la_law_949 950 rfl (by decide) ?_
  refine jj_iadd X d_la_law_950 951 rfl ?_
  refine jj_topv (y := nI (6 * j + 1)) (nI_1 _) ?_
  refine jj_sld X hX hbl hbA d_la_law_951 952 rfl (vp_in_nI (by omega) (by omega)) ?_
  refine jj_topv (y := xs (6 * j + 1)) (by rw [nI_clamp (by omega)]) ?_
  refine jj_aload_n X d_la_law_952 953 rfl 0 rfl ?_
  refine jj_iload X d_la_law_953 955 rfl 4 rfl ?_
  refine jj_iconst (v := 2) X d_la_law_955 956 rfl (by decide) ?_
  refine jj_iadd X d_la_law_956 957 rfl ?_
  refine jj_topv (y := nI (6 * j + 2)) (nI_add _ 2) ?_
  refine jj_sld X hX hbl hbA d_la_law_957 958 rfl (vp_in_nI (by omega) (by omega)) ?_
  refine jj_topv (y := xs (6 * j + 2)) (by rw [nI_clamp (by omega)]) ?_
  refine jj_callV (w1 := []) (st := [.int r1]) X2 d_la_law_958 961 rfl (c_mo_told l D cI cZ q2 B nT  (xs (6 * j + 1)) (xs (6 * j + 2)) (iv_mT hI) (iv_lT hI)  ) g_la_105 ⟨rfl, w_mo_told⟩ ⟨(Nat.le_of_ble_eq_true rfl), (Nat.le_of_ble_eq_true rfl)⟩ rfl 0 rfl rfl rfl (Nat.le_of_ble_eq_true rfl) ⟨by simp only [rmd, room_1]; omega, by simp only [rmd, room_1]; omega⟩ (fun r2 u2 hu2 => ?_)
  obtain ⟨hr2, rfl⟩ := hu2
  refine jj_icmp_eq X d_la_law_961 966 964 (by decide) rfl (fun _ => ?_) (fun c9 => absurd (hr1.trans (ha.trans hr2.symm)) c9)
  refine jj_widen (k' := (44 + (j + 1))) (n' := (4287 + 6 * (j + 1))) (by simp only [rmd]; omega) (by simp only [rmd]; omega) ?_
  exact h966 _ _ _ hI2
end LAW
