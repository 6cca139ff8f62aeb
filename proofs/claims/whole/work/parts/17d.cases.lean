section ZLC
variable {nm : String} {E : z_E} {o K b L : Nat} {xs : Nat → Int32} {m : z_Mi} {r : z_Mr} {i : Int} {Q : z_Q}
set_option maxHeartbeats 1000000 in
set_option maxRecDepth 100000 in
theorem w_feed (hJ : z_JJ E o m r) (hK : E.2.1 K = b) (hL : L ≤ 1536) (i0 : 0 ≤ i) (i3 : i + 3 ≤ (L : Int)) (k : ∀ (m2 : z_Mi) (r2 : z_Mr), z_JJ E o m2 r2 → z_A (M_W nm b L xs) E 650 14362 683 [some (zo K), some (zo 0), some (zo o), some (zi i)] [] m2 r2 Q) : z_A (M_W nm b L xs) E 650 14362 136 [some (zo K), some (zo 0), some (zo o), some (zi i)] [] m r Q := by
  obtain ⟨ho, ⟨nx, hX⟩, hMO, hb1, hb⟩ := id hJ
  have t0 := hX.1.1
  refine z_aload_n (z_Dl e_L_law_136) rfl ?_
  refine z_aload_n (z_Dl e_L_law_137) rfl ?_
  refine z_iload_n (z_Dl e_L_law_138) rfl ?_
  refine z_iconst (z_Dl e_L_law_139) ?_
  refine z_iadd (z_Dl e_L_law_140) ?_
  refine z_sld (z_Dl e_L_law_141) hK hL (by omega) (by omega) ?_
  refine z_callVi (M' := M_X4_feed) (As := [zi (x_sc xs (i + 1))]) (rest := []) (z_Dl e_L_law_142) l_RL_13 rfl rfl rfl rfl t0 ⟨_, _, rfl⟩ (c_X4_feed hX x_sc_R) (fun x1 m1 r1 h1 => ?_)
  have hf := f_op hJ h1
  refine z_aload_n (z_Dl e_L_law_145) rfl ?_
  refine z_aload_n (z_Dl e_L_law_146) rfl ?_
  refine z_iload_n (z_Dl e_L_law_147) rfl ?_
  refine z_iconst (z_Dl e_L_law_148) ?_
  refine z_iadd (z_Dl e_L_law_149) ?_
  refine z_sld (z_Dl e_L_law_150) hK hL (by omega) (by omega) ?_
  refine z_callVi (M' := M_X5_feed) (As := [zi (x_sc xs (i + 1))]) (rest := [zi x1]) (z_Dl e_L_law_151) l_RL_17 rfl rfl rfl rfl hMO.1 ⟨_, _, rfl⟩ (d_L_feed hJ hf x_sc_R) (fun x2 m2 r2 h2 => ?_)
  obtain ⟨hx, hJ2⟩ := j_op hJ h1 h2
  subst hx
  refine z_same (z_Jl e_L_law_154) ?_
  exact k m2 r2 hJ2
set_option maxHeartbeats 1000000 in
set_option maxRecDepth 100000 in
theorem w_moveTo (hJ : z_JJ E o m r) (hK : E.2.1 K = b) (hL : L ≤ 1536) (i0 : 0 ≤ i) (i3 : i + 3 ≤ (L : Int)) (k : ∀ (m2 : z_Mi) (r2 : z_Mr), z_JJ E o m2 r2 → z_A (M_W nm b L xs) E 650 14362 683 [some (zo K), some (zo 0), some (zo o), some (zi i)] [] m2 r2 Q) : z_A (M_W nm b L xs) E 650 14362 159 [some (zo K), some (zo 0), some (zo o), some (zi i)] [] m r Q := by
  obtain ⟨ho, ⟨nx, hX⟩, hMO, hb1, hb⟩ := id hJ
  have t0 := hX.1.1
  refine z_aload_n (z_Dl e_L_law_159) rfl ?_
  refine z_aload_n (z_Dl e_L_law_160) rfl ?_
  refine z_iload_n (z_Dl e_L_law_161) rfl ?_
  refine z_iconst (z_Dl e_L_law_162) ?_
  refine z_iadd (z_Dl e_L_law_163) ?_
  refine z_sld (z_Dl e_L_law_164) hK hL (by omega) (by omega) ?_
  refine z_aload_n (z_Dl e_L_law_165) rfl ?_
  refine z_iload_n (z_Dl e_L_law_166) rfl ?_
  refine z_iconst (z_Dl e_L_law_167) ?_
  refine z_iadd (z_Dl e_L_law_168) ?_
  refine z_sld (z_Dl e_L_law_169) hK hL (by omega) (by omega) ?_
  refine z_callVi (M' := M_X4_moveTo) (As := [zi (x_sc xs (i + 1)), zi (x_sc xs (i + 2))]) (rest := []) (z_Dl e_L_law_170) l_RL_18 rfl rfl rfl rfl t0 ⟨_, _, rfl⟩ (c_X4_moveTo hX x_sc_R x_sc_R) (fun x1 m1 r1 h1 => ?_)
  have hf := f_op hJ h1
  refine z_aload_n (z_Dl e_L_law_173) rfl ?_
  refine z_aload_n (z_Dl e_L_law_174) rfl ?_
  refine z_iload_n (z_Dl e_L_law_175) rfl ?_
  refine z_iconst (z_Dl e_L_law_176) ?_
  refine z_iadd (z_Dl e_L_law_177) ?_
  refine z_sld (z_Dl e_L_law_178) hK hL (by omega) (by omega) ?_
  refine z_aload_n (z_Dl e_L_law_179) rfl ?_
  refine z_iload_n (z_Dl e_L_law_180) rfl ?_
  refine z_iconst (z_Dl e_L_law_181) ?_
  refine z_iadd (z_Dl e_L_law_182) ?_
  refine z_sld (z_Dl e_L_law_183) hK hL (by omega) (by omega) ?_
  refine z_callVi (M' := M_X5_moveTo) (As := [zi (x_sc xs (i + 1)), zi (x_sc xs (i + 2))]) (rest := [zi x1]) (z_Dl e_L_law_184) l_RL_22 rfl rfl rfl rfl hMO.1 ⟨_, _, rfl⟩ (d_L_moveTo hJ hf x_sc_R x_sc_R) (fun x2 m2 r2 h2 => ?_)
  obtain ⟨hx, hJ2⟩ := j_op hJ h1 h2
  subst hx
  refine z_same (z_Jl e_L_law_187) ?_
  exact k m2 r2 hJ2
set_option maxHeartbeats 1000000 in
set_option maxRecDepth 100000 in
theorem w_setRegion (hJ : z_JJ E o m r) (hK : E.2.1 K = b) (hL : L ≤ 1536) (i0 : 0 ≤ i) (i3 : i + 3 ≤ (L : Int)) (k : ∀ (m2 : z_Mi) (r2 : z_Mr), z_JJ E o m2 r2 → z_A (M_W nm b L xs) E 650 14362 683 [some (zo K), some (zo 0), some (zo o), some (zi i)] [] m2 r2 Q) : z_A (M_W nm b L xs) E 650 14362 192 [some (zo K), some (zo 0), some (zo o), some (zi i)] [] m r Q := by
  obtain ⟨ho, ⟨nx, hX⟩, hMO, hb1, hb⟩ := id hJ
  have t0 := hX.1.1
  refine z_aload_n (z_Dl e_L_law_192) rfl ?_
  refine z_aload_n (z_Dl e_L_law_193) rfl ?_
  refine z_iload_n (z_Dl e_L_law_194) rfl ?_
  refine z_iconst (z_Dl e_L_law_195) ?_
  refine z_iadd (z_Dl e_L_law_196) ?_
  refine z_sld (z_Dl e_L_law_197) hK hL (by omega) (by omega) ?_
  refine z_aload_n (z_Dl e_L_law_198) rfl ?_
  refine z_iload_n (z_Dl e_L_law_199) rfl ?_
  refine z_iconst (z_Dl e_L_law_200) ?_
  refine z_iadd (z_Dl e_L_law_201) ?_
  refine z_sld (z_Dl e_L_law_202) hK hL (by omega) (by omega) ?_
  refine z_callVi (M' := M_X4_setRegion) (As := [zi (x_sc xs (i + 1)), zi (x_sc xs (i + 2))]) (rest := []) (z_Dl e_L_law_203) l_RL_23 rfl rfl rfl rfl t0 ⟨_, _, rfl⟩ (c_X4_setRegion hX x_sc_R x_sc_R) (fun x1 m1 r1 h1 => ?_)
  have hf := f_op hJ h1
  refine z_aload_n (z_Dl e_L_law_206) rfl ?_
  refine z_aload_n (z_Dl e_L_law_207) rfl ?_
  refine z_iload_n (z_Dl e_L_law_208) rfl ?_
  refine z_iconst (z_Dl e_L_law_209) ?_
  refine z_iadd (z_Dl e_L_law_210) ?_
  refine z_sld (z_Dl e_L_law_211) hK hL (by omega) (by omega) ?_
  refine z_aload_n (z_Dl e_L_law_212) rfl ?_
  refine z_iload_n (z_Dl e_L_law_213) rfl ?_
  refine z_iconst (z_Dl e_L_law_214) ?_
  refine z_iadd (z_Dl e_L_law_215) ?_
  refine z_sld (z_Dl e_L_law_216) hK hL (by omega) (by omega) ?_
  refine z_callVi (M' := M_X5_setRegion) (As := [zi (x_sc xs (i + 1)), zi (x_sc xs (i + 2))]) (rest := [zi x1]) (z_Dl e_L_law_217) l_RL_26 rfl rfl rfl rfl hMO.1 ⟨_, _, rfl⟩ (d_L_setRegion hJ hf x_sc_R x_sc_R) (fun x2 m2 r2 h2 => ?_)
  obtain ⟨hx, hJ2⟩ := j_op hJ h1 h2
  subst hx
  refine z_same (z_Jl e_L_law_220) ?_
  exact k m2 r2 hJ2
set_option maxHeartbeats 1000000 in
set_option maxRecDepth 100000 in
theorem w_eraseLine (hJ : z_JJ E o m r) (hK : E.2.1 K = b) (hL : L ≤ 1536) (i0 : 0 ≤ i) (i3 : i + 3 ≤ (L : Int)) (k : ∀ (m2 : z_Mi) (r2 : z_Mr), z_JJ E o m2 r2 → z_A (M_W nm b L xs) E 650 14362 683 [some (zo K), some (zo 0), some (zo o), some (zi i)] [] m2 r2 Q) : z_A (M_W nm b L xs) E 650 14362 225 [some (zo K), some (zo 0), some (zo o), some (zi i)] [] m r Q := by
  obtain ⟨ho, ⟨nx, hX⟩, hMO, hb1, hb⟩ := id hJ
  have t0 := hX.1.1
  refine z_aload_n (z_Dl e_L_law_225) rfl ?_
  refine z_aload_n (z_Dl e_L_law_226) rfl ?_
  refine z_iload_n (z_Dl e_L_law_227) rfl ?_
  refine z_iconst (z_Dl e_L_law_228) ?_
  refine z_iadd (z_Dl e_L_law_229) ?_
  refine z_sld (z_Dl e_L_law_230) hK hL (by omega) (by omega) ?_
  refine z_callVi (M' := M_X4_eraseLine) (As := [zi (x_sc xs (i + 1))]) (rest := []) (z_Dl e_L_law_231) l_RL_27 rfl rfl rfl rfl t0 ⟨_, _, rfl⟩ (c_X4_eraseLine hX x_sc_R) (fun x1 m1 r1 h1 => ?_)
  have hf := f_op hJ h1
  refine z_aload_n (z_Dl e_L_law_234) rfl ?_
  refine z_aload_n (z_Dl e_L_law_235) rfl ?_
  refine z_iload_n (z_Dl e_L_law_236) rfl ?_
  refine z_iconst (z_Dl e_L_law_237) ?_
  refine z_iadd (z_Dl e_L_law_238) ?_
  refine z_sld (z_Dl e_L_law_239) hK hL (by omega) (by omega) ?_
  refine z_callVi (M' := M_X5_eraseLine) (As := [zi (x_sc xs (i + 1))]) (rest := [zi x1]) (z_Dl e_L_law_240) l_RL_30 rfl rfl rfl rfl hMO.1 ⟨_, _, rfl⟩ (d_L_eraseLine hJ hf x_sc_R) (fun x2 m2 r2 h2 => ?_)
  obtain ⟨hx, hJ2⟩ := j_op hJ h1 h2
  subst hx
  refine z_same (z_Jl e_L_law_243) ?_
  exact k m2 r2 hJ2
set_option maxHeartbeats 1000000 in
set_option maxRecDepth 100000 in
theorem w_eraseScreen (hJ : z_JJ E o m r) (hK : E.2.1 K = b) (hL : L ≤ 1536) (i0 : 0 ≤ i) (i3 : i + 3 ≤ (L : Int)) (k : ∀ (m2 : z_Mi) (r2 : z_Mr), z_JJ E o m2 r2 → z_A (M_W nm b L xs) E 650 14362 683 [some (zo K), some (zo 0), some (zo o), some (zi i)] [] m2 r2 Q) : z_A (M_W nm b L xs) E 650 14362 248 [some (zo K), some (zo 0), some (zo o), some (zi i)] [] m r Q := by
  obtain ⟨ho, ⟨nx, hX⟩, hMO, hb1, hb⟩ := id hJ
  have t0 := hX.1.1
  refine z_aload_n (z_Dl e_L_law_248) rfl ?_
  refine z_aload_n (z_Dl e_L_law_249) rfl ?_
  refine z_iload_n (z_Dl e_L_law_250) rfl ?_
  refine z_iconst (z_Dl e_L_law_251) ?_
  refine z_iadd (z_Dl e_L_law_252) ?_
  refine z_sld (z_Dl e_L_law_253) hK hL (by omega) (by omega) ?_
  refine z_callVi (M' := M_X4_eraseScreen) (As := [zi (x_sc xs (i + 1))]) (rest := []) (z_Dl e_L_law_254) l_RL_31 rfl rfl rfl rfl t0 ⟨_, _, rfl⟩ (c_X4_eraseScreen hX x_sc_R) (fun x1 m1 r1 h1 => ?_)
  have hf := f_op hJ h1
  refine z_aload_n (z_Dl e_L_law_257) rfl ?_
  refine z_aload_n (z_Dl e_L_law_258) rfl ?_
  refine z_iload_n (z_Dl e_L_law_259) rfl ?_
  refine z_iconst (z_Dl e_L_law_260) ?_
  refine z_iadd (z_Dl e_L_law_261) ?_
  refine z_sld (z_Dl e_L_law_262) hK hL (by omega) (by omega) ?_
  refine z_callVi (M' := M_X5_eraseScreen) (As := [zi (x_sc xs (i + 1))]) (rest := [zi x1]) (z_Dl e_L_law_263) l_RL_34 rfl rfl rfl rfl hMO.1 ⟨_, _, rfl⟩ (d_L_eraseScreen hJ hf x_sc_R) (fun x2 m2 r2 h2 => ?_)
  obtain ⟨hx, hJ2⟩ := j_op hJ h1 h2
  subst hx
  refine z_same (z_Jl e_L_law_266) ?_
  exact k m2 r2 hJ2
set_option maxHeartbeats 1000000 in
set_option maxRecDepth 100000 in
theorem w_insertRows (hJ : z_JJ E o m r) (hK : E.2.1 K = b) (hL : L ≤ 1536) (i0 : 0 ≤ i) (i3 : i + 3 ≤ (L : Int)) (k : ∀ (m2 : z_Mi) (r2 : z_Mr), z_JJ E o m2 r2 → z_A (M_W nm b L xs) E 650 14362 683 [some (zo K), some (zo 0), some (zo o), some (zi i)] [] m2 r2 Q) : z_A (M_W nm b L xs) E 650 14362 271 [some (zo K), some (zo 0), some (zo o), some (zi i)] [] m r Q := by
  obtain ⟨ho, ⟨nx, hX⟩, hMO, hb1, hb⟩ := id hJ
  have t0 := hX.1.1
  refine z_aload_n (z_Dl e_L_law_271) rfl ?_
  refine z_aload_n (z_Dl e_L_law_272) rfl ?_
  refine z_iload_n (z_Dl e_L_law_273) rfl ?_
  refine z_iconst (z_Dl e_L_law_274) ?_
  refine z_iadd (z_Dl e_L_law_275) ?_
  refine z_sld (z_Dl e_L_law_276) hK hL (by omega) (by omega) ?_
  refine z_callVi (M' := M_X4_insertRows) (As := [zi (x_sc xs (i + 1))]) (rest := []) (z_Dl e_L_law_277) l_RL_35 rfl rfl rfl rfl t0 ⟨_, _, rfl⟩ (c_X4_insertRows hX x_sc_R) (fun x1 m1 r1 h1 => ?_)
  have hf := f_op3 hJ h1
  refine z_aload_n (z_Dl e_L_law_280) rfl ?_
  refine z_aload_n (z_Dl e_L_law_281) rfl ?_
  refine z_iload_n (z_Dl e_L_law_282) rfl ?_
  refine z_iconst (z_Dl e_L_law_283) ?_
  refine z_iadd (z_Dl e_L_law_284) ?_
  refine z_sld (z_Dl e_L_law_285) hK hL (by omega) (by omega) ?_
  refine z_callVi (M' := M_X5_insertRows) (As := [zi (x_sc xs (i + 1))]) (rest := [zi x1]) (z_Dl e_L_law_286) l_RL_38 rfl rfl rfl rfl hMO.1 ⟨_, _, rfl⟩ (d_L_insertRows hJ hf x_sc_R) (fun x2 m2 r2 h2 => ?_)
  obtain ⟨hx, hJ2⟩ := j_op3 hJ h1 h2
  subst hx
  refine z_same (z_Jl e_L_law_289) ?_
  exact k m2 r2 hJ2
set_option maxHeartbeats 1000000 in
set_option maxRecDepth 100000 in
theorem w_deleteRows (hJ : z_JJ E o m r) (hK : E.2.1 K = b) (hL : L ≤ 1536) (i0 : 0 ≤ i) (i3 : i + 3 ≤ (L : Int)) (k : ∀ (m2 : z_Mi) (r2 : z_Mr), z_JJ E o m2 r2 → z_A (M_W nm b L xs) E 650 14362 683 [some (zo K), some (zo 0), some (zo o), some (zi i)] [] m2 r2 Q) : z_A (M_W nm b L xs) E 650 14362 294 [some (zo K), some (zo 0), some (zo o), some (zi i)] [] m r Q := by
  obtain ⟨ho, ⟨nx, hX⟩, hMO, hb1, hb⟩ := id hJ
  have t0 := hX.1.1
  refine z_aload_n (z_Dl e_L_law_294) rfl ?_
  refine z_aload_n (z_Dl e_L_law_295) rfl ?_
  refine z_iload_n (z_Dl e_L_law_296) rfl ?_
  refine z_iconst (z_Dl e_L_law_297) ?_
  refine z_iadd (z_Dl e_L_law_298) ?_
  refine z_sld (z_Dl e_L_law_299) hK hL (by omega) (by omega) ?_
  refine z_callVi (M' := M_X4_deleteRows) (As := [zi (x_sc xs (i + 1))]) (rest := []) (z_Dl e_L_law_300) l_RL_39 rfl rfl rfl rfl t0 ⟨_, _, rfl⟩ (c_X4_deleteRows hX x_sc_R) (fun x1 m1 r1 h1 => ?_)
  have hf := f_op3 hJ h1
  refine z_aload_n (z_Dl e_L_law_303) rfl ?_
  refine z_aload_n (z_Dl e_L_law_304) rfl ?_
  refine z_iload_n (z_Dl e_L_law_305) rfl ?_
  refine z_iconst (z_Dl e_L_law_306) ?_
  refine z_iadd (z_Dl e_L_law_307) ?_
  refine z_sld (z_Dl e_L_law_308) hK hL (by omega) (by omega) ?_
  refine z_callVi (M' := M_X5_deleteRows) (As := [zi (x_sc xs (i + 1))]) (rest := [zi x1]) (z_Dl e_L_law_309) l_RL_42 rfl rfl rfl rfl hMO.1 ⟨_, _, rfl⟩ (d_L_deleteRows hJ hf x_sc_R) (fun x2 m2 r2 h2 => ?_)
  obtain ⟨hx, hJ2⟩ := j_op3 hJ h1 h2
  subst hx
  refine z_same (z_Jl e_L_law_312) ?_
  exact k m2 r2 hJ2
set_option maxHeartbeats 1000000 in
set_option maxRecDepth 100000 in
theorem w_insertCells (hJ : z_JJ E o m r) (hK : E.2.1 K = b) (hL : L ≤ 1536) (i0 : 0 ≤ i) (i3 : i + 3 ≤ (L : Int)) (k : ∀ (m2 : z_Mi) (r2 : z_Mr), z_JJ E o m2 r2 → z_A (M_W nm b L xs) E 650 14362 683 [some (zo K), some (zo 0), some (zo o), some (zi i)] [] m2 r2 Q) : z_A (M_W nm b L xs) E 650 14362 317 [some (zo K), some (zo 0), some (zo o), some (zi i)] [] m r Q := by
  obtain ⟨ho, ⟨nx, hX⟩, hMO, hb1, hb⟩ := id hJ
  have t0 := hX.1.1
  refine z_aload_n (z_Dl e_L_law_317) rfl ?_
  refine z_aload_n (z_Dl e_L_law_318) rfl ?_
  refine z_iload_n (z_Dl e_L_law_319) rfl ?_
  refine z_iconst (z_Dl e_L_law_320) ?_
  refine z_iadd (z_Dl e_L_law_321) ?_
  refine z_sld (z_Dl e_L_law_322) hK hL (by omega) (by omega) ?_
  refine z_callVi (M' := M_X4_insertCells) (As := [zi (x_sc xs (i + 1))]) (rest := []) (z_Dl e_L_law_323) l_RL_43 rfl rfl rfl rfl t0 ⟨_, _, rfl⟩ (c_X4_insertCells hX x_sc_R) (fun x1 m1 r1 h1 => ?_)
  have hf := f_op hJ h1
  refine z_aload_n (z_Dl e_L_law_326) rfl ?_
  refine z_aload_n (z_Dl e_L_law_327) rfl ?_
  refine z_iload_n (z_Dl e_L_law_328) rfl ?_
  refine z_iconst (z_Dl e_L_law_329) ?_
  refine z_iadd (z_Dl e_L_law_330) ?_
  refine z_sld (z_Dl e_L_law_331) hK hL (by omega) (by omega) ?_
  refine z_callVi (M' := M_X5_insertCells) (As := [zi (x_sc xs (i + 1))]) (rest := [zi x1]) (z_Dl e_L_law_332) l_RL_46 rfl rfl rfl rfl hMO.1 ⟨_, _, rfl⟩ (d_L_insertCells hJ hf x_sc_R) (fun x2 m2 r2 h2 => ?_)
  obtain ⟨hx, hJ2⟩ := j_op hJ h1 h2
  subst hx
  refine z_same (z_Jl e_L_law_335) ?_
  exact k m2 r2 hJ2
set_option maxHeartbeats 1000000 in
set_option maxRecDepth 100000 in
theorem w_deleteCells (hJ : z_JJ E o m r) (hK : E.2.1 K = b) (hL : L ≤ 1536) (i0 : 0 ≤ i) (i3 : i + 3 ≤ (L : Int)) (k : ∀ (m2 : z_Mi) (r2 : z_Mr), z_JJ E o m2 r2 → z_A (M_W nm b L xs) E 650 14362 683 [some (zo K), some (zo 0), some (zo o), some (zi i)] [] m2 r2 Q) : z_A (M_W nm b L xs) E 650 14362 340 [some (zo K), some (zo 0), some (zo o), some (zi i)] [] m r Q := by
  obtain ⟨ho, ⟨nx, hX⟩, hMO, hb1, hb⟩ := id hJ
  have t0 := hX.1.1
  refine z_aload_n (z_Dl e_L_law_340) rfl ?_
  refine z_aload_n (z_Dl e_L_law_341) rfl ?_
  refine z_iload_n (z_Dl e_L_law_342) rfl ?_
  refine z_iconst (z_Dl e_L_law_343) ?_
  refine z_iadd (z_Dl e_L_law_344) ?_
  refine z_sld (z_Dl e_L_law_345) hK hL (by omega) (by omega) ?_
  refine z_callVi (M' := M_X4_deleteCells) (As := [zi (x_sc xs (i + 1))]) (rest := []) (z_Dl e_L_law_346) l_RL_47 rfl rfl rfl rfl t0 ⟨_, _, rfl⟩ (c_X4_deleteCells hX x_sc_R) (fun x1 m1 r1 h1 => ?_)
  have hf := f_op hJ h1
  refine z_aload_n (z_Dl e_L_law_349) rfl ?_
  refine z_aload_n (z_Dl e_L_law_350) rfl ?_
  refine z_iload_n (z_Dl e_L_law_351) rfl ?_
  refine z_iconst (z_Dl e_L_law_352) ?_
  refine z_iadd (z_Dl e_L_law_353) ?_
  refine z_sld (z_Dl e_L_law_354) hK hL (by omega) (by omega) ?_
  refine z_callVi (M' := M_X5_deleteCells) (As := [zi (x_sc xs (i + 1))]) (rest := [zi x1]) (z_Dl e_L_law_355) l_RL_50 rfl rfl rfl rfl hMO.1 ⟨_, _, rfl⟩ (d_L_deleteCells hJ hf x_sc_R) (fun x2 m2 r2 h2 => ?_)
  obtain ⟨hx, hJ2⟩ := j_op hJ h1 h2
  subst hx
  refine z_same (z_Jl e_L_law_358) ?_
  exact k m2 r2 hJ2
set_option maxHeartbeats 1000000 in
set_option maxRecDepth 100000 in
theorem w_keep (hJ : z_JJ E o m r) (hK : E.2.1 K = b) (hL : L ≤ 1536) (i0 : 0 ≤ i) (i3 : i + 3 ≤ (L : Int)) (k : ∀ (m2 : z_Mi) (r2 : z_Mr), z_JJ E o m2 r2 → z_A (M_W nm b L xs) E 650 14362 683 [some (zo K), some (zo 0), some (zo o), some (zi i)] [] m2 r2 Q) : z_A (M_W nm b L xs) E 650 14362 363 [some (zo K), some (zo 0), some (zo o), some (zi i)] [] m r Q := by
  obtain ⟨ho, ⟨nx, hX⟩, hMO, hb1, hb⟩ := id hJ
  have t0 := hX.1.1
  refine z_aload_n (z_Dl e_L_law_363) rfl ?_
  refine z_callVi (M' := M_X4_keep) (As := []) (rest := []) (z_Dl e_L_law_364) l_RL_51 rfl rfl rfl rfl t0 ⟨_, _, rfl⟩ (c_X4_keep hX) (fun x1 m1 r1 h1 => ?_)
  have hf := f_op hJ h1
  refine z_aload_n (z_Dl e_L_law_367) rfl ?_
  refine z_callVi (M' := M_X5_keep) (As := []) (rest := [zi x1]) (z_Dl e_L_law_368) l_RL_55 rfl rfl rfl rfl hMO.1 ⟨_, _, rfl⟩ (d_L_keep hJ hf) (fun x2 m2 r2 h2 => ?_)
  obtain ⟨hx, hJ2⟩ := j_op hJ h1 h2
  subst hx
  refine z_same (z_Jl e_L_law_371) ?_
  exact k m2 r2 hJ2
set_option maxHeartbeats 1000000 in
set_option maxRecDepth 100000 in
theorem w_back (hJ : z_JJ E o m r) (hK : E.2.1 K = b) (hL : L ≤ 1536) (i0 : 0 ≤ i) (i3 : i + 3 ≤ (L : Int)) (k : ∀ (m2 : z_Mi) (r2 : z_Mr), z_JJ E o m2 r2 → z_A (M_W nm b L xs) E 650 14362 683 [some (zo K), some (zo 0), some (zo o), some (zi i)] [] m2 r2 Q) : z_A (M_W nm b L xs) E 650 14362 376 [some (zo K), some (zo 0), some (zo o), some (zi i)] [] m r Q := by
  obtain ⟨ho, ⟨nx, hX⟩, hMO, hb1, hb⟩ := id hJ
  have t0 := hX.1.1
  refine z_aload_n (z_Dl e_L_law_376) rfl ?_
  refine z_callVi (M' := M_X4_back) (As := []) (rest := []) (z_Dl e_L_law_377) l_RL_56 rfl rfl rfl rfl t0 ⟨_, _, rfl⟩ (c_X4_back hX) (fun x1 m1 r1 h1 => ?_)
  have hf := f_op hJ h1
  refine z_aload_n (z_Dl e_L_law_380) rfl ?_
  refine z_callVi (M' := M_X5_back) (As := []) (rest := [zi x1]) (z_Dl e_L_law_381) l_RL_59 rfl rfl rfl rfl hMO.1 ⟨_, _, rfl⟩ (d_L_back hJ hf) (fun x2 m2 r2 h2 => ?_)
  obtain ⟨hx, hJ2⟩ := j_op hJ h1 h2
  subst hx
  refine z_same (z_Jl e_L_law_384) ?_
  exact k m2 r2 hJ2
set_option maxHeartbeats 1000000 in
set_option maxRecDepth 100000 in
theorem w_cell (hJ : z_JJ E o m r) (hK : E.2.1 K = b) (hL : L ≤ 1536) (i0 : 0 ≤ i) (i3 : i + 3 ≤ (L : Int)) (k : ∀ (m2 : z_Mi) (r2 : z_Mr), z_JJ E o m2 r2 → z_A (M_W nm b L xs) E 650 14362 683 [some (zo K), some (zo 0), some (zo o), some (zi i)] [] m2 r2 Q) : z_A (M_W nm b L xs) E 650 14362 422 [some (zo K), some (zo 0), some (zo o), some (zi i)] [] m r Q := by
  obtain ⟨ho, ⟨nx, hX⟩, hMO, hb1, hb⟩ := id hJ
  have t0 := hX.1.1
  refine z_aload_n (z_Dl e_L_law_422) rfl ?_
  refine z_aload_n (z_Dl e_L_law_423) rfl ?_
  refine z_iload_n (z_Dl e_L_law_424) rfl ?_
  refine z_iconst (z_Dl e_L_law_425) ?_
  refine z_iadd (z_Dl e_L_law_426) ?_
  refine z_sld (z_Dl e_L_law_427) hK hL (by omega) (by omega) ?_
  refine z_aload_n (z_Dl e_L_law_428) rfl ?_
  refine z_iload_n (z_Dl e_L_law_429) rfl ?_
  refine z_iconst (z_Dl e_L_law_430) ?_
  refine z_iadd (z_Dl e_L_law_431) ?_
  refine z_sld (z_Dl e_L_law_432) hK hL (by omega) (by omega) ?_
  refine z_callVi (M' := M_X4_cell) (As := [zi (x_sc xs (i + 1)), zi (x_sc xs (i + 2))]) (rest := []) (z_Dl e_L_law_433) l_RL_64 rfl rfl rfl rfl t0 ⟨_, _, rfl⟩ (c_X4_cell hX x_sc_R x_sc_R) (fun x1 m1 r1 h1 => ?_)
  have hf := f_rd hJ h1
  refine z_aload_n (z_Dl e_L_law_436) rfl ?_
  refine z_aload_n (z_Dl e_L_law_437) rfl ?_
  refine z_iload_n (z_Dl e_L_law_438) rfl ?_
  refine z_iconst (z_Dl e_L_law_439) ?_
  refine z_iadd (z_Dl e_L_law_440) ?_
  refine z_sld (z_Dl e_L_law_441) hK hL (by omega) (by omega) ?_
  refine z_aload_n (z_Dl e_L_law_442) rfl ?_
  refine z_iload_n (z_Dl e_L_law_443) rfl ?_
  refine z_iconst (z_Dl e_L_law_444) ?_
  refine z_iadd (z_Dl e_L_law_445) ?_
  refine z_sld (z_Dl e_L_law_446) hK hL (by omega) (by omega) ?_
  refine z_callVi (M' := M_X5_cell) (As := [zi (x_sc xs (i + 1)), zi (x_sc xs (i + 2))]) (rest := [zi x1]) (z_Dl e_L_law_447) l_RL_67 rfl rfl rfl rfl hMO.1 ⟨_, _, rfl⟩ (d_L_cell hJ hf x_sc_R x_sc_R) (fun x2 m2 r2 h2 => ?_)
  obtain ⟨hx, hJ2⟩ := j_rd hJ h1 h2
  subst hx
  refine z_same (z_Jl e_L_law_450) ?_
  exact k m2 r2 hJ2
set_option maxHeartbeats 1000000 in
set_option maxRecDepth 100000 in
theorem w_row (hJ : z_JJ E o m r) (hK : E.2.1 K = b) (hL : L ≤ 1536) (i0 : 0 ≤ i) (i3 : i + 3 ≤ (L : Int)) (k : ∀ (m2 : z_Mi) (r2 : z_Mr), z_JJ E o m2 r2 → z_A (M_W nm b L xs) E 650 14362 683 [some (zo K), some (zo 0), some (zo o), some (zi i)] [] m2 r2 Q) : z_A (M_W nm b L xs) E 650 14362 455 [some (zo K), some (zo 0), some (zo o), some (zi i)] [] m r Q := by
  obtain ⟨ho, ⟨nx, hX⟩, hMO, hb1, hb⟩ := id hJ
  have t0 := hX.1.1
  refine z_aload_n (z_Dl e_L_law_455) rfl ?_
  refine z_aload_n (z_Dl e_L_law_456) rfl ?_
  refine z_iload_n (z_Dl e_L_law_457) rfl ?_
  refine z_iconst (z_Dl e_L_law_458) ?_
  refine z_iadd (z_Dl e_L_law_459) ?_
  refine z_sld (z_Dl e_L_law_460) hK hL (by omega) (by omega) ?_
  refine z_aload_n (z_Dl e_L_law_461) rfl ?_
  refine z_iload_n (z_Dl e_L_law_462) rfl ?_
  refine z_iconst (z_Dl e_L_law_463) ?_
  refine z_iadd (z_Dl e_L_law_464) ?_
  refine z_sld (z_Dl e_L_law_465) hK hL (by omega) (by omega) ?_
  refine z_callVi (M' := M_X4_row) (As := [zi (x_sc xs (i + 1)), zi (x_sc xs (i + 2))]) (rest := []) (z_Dl e_L_law_466) l_RL_68 rfl rfl rfl rfl t0 ⟨_, _, rfl⟩ (c_X4_row hX x_sc_R x_sc_R) (fun x1 m1 r1 h1 => ?_)
  have hf := f_rd hJ h1
  refine z_aload_n (z_Dl e_L_law_469) rfl ?_
  refine z_aload_n (z_Dl e_L_law_470) rfl ?_
  refine z_iload_n (z_Dl e_L_law_471) rfl ?_
  refine z_iconst (z_Dl e_L_law_472) ?_
  refine z_iadd (z_Dl e_L_law_473) ?_
  refine z_sld (z_Dl e_L_law_474) hK hL (by omega) (by omega) ?_
  refine z_aload_n (z_Dl e_L_law_475) rfl ?_
  refine z_iload_n (z_Dl e_L_law_476) rfl ?_
  refine z_iconst (z_Dl e_L_law_477) ?_
  refine z_iadd (z_Dl e_L_law_478) ?_
  refine z_sld (z_Dl e_L_law_479) hK hL (by omega) (by omega) ?_
  refine z_callVi (M' := M_X5_row) (As := [zi (x_sc xs (i + 1)), zi (x_sc xs (i + 2))]) (rest := [zi x1]) (z_Dl e_L_law_480) l_RL_71 rfl rfl rfl rfl hMO.1 ⟨_, _, rfl⟩ (d_L_row hJ hf x_sc_R x_sc_R) (fun x2 m2 r2 h2 => ?_)
  obtain ⟨hx, hJ2⟩ := j_rd hJ h1 h2
  subst hx
  refine z_same (z_Jl e_L_law_483) ?_
  exact k m2 r2 hJ2
set_option maxHeartbeats 1000000 in
set_option maxRecDepth 100000 in
theorem w_line (hJ : z_JJ E o m r) (hK : E.2.1 K = b) (hL : L ≤ 1536) (i0 : 0 ≤ i) (i3 : i + 3 ≤ (L : Int)) (k : ∀ (m2 : z_Mi) (r2 : z_Mr), z_JJ E o m2 r2 → z_A (M_W nm b L xs) E 650 14362 683 [some (zo K), some (zo 0), some (zo o), some (zi i)] [] m2 r2 Q) : z_A (M_W nm b L xs) E 650 14362 488 [some (zo K), some (zo 0), some (zo o), some (zi i)] [] m r Q := by
  obtain ⟨ho, ⟨nx, hX⟩, hMO, hb1, hb⟩ := id hJ
  have t0 := hX.1.1
  refine z_aload_n (z_Dl e_L_law_488) rfl ?_
  refine z_aload_n (z_Dl e_L_law_489) rfl ?_
  refine z_iload_n (z_Dl e_L_law_490) rfl ?_
  refine z_iconst (z_Dl e_L_law_491) ?_
  refine z_iadd (z_Dl e_L_law_492) ?_
  refine z_sld (z_Dl e_L_law_493) hK hL (by omega) (by omega) ?_
  refine z_aload_n (z_Dl e_L_law_494) rfl ?_
  refine z_iload_n (z_Dl e_L_law_495) rfl ?_
  refine z_iconst (z_Dl e_L_law_496) ?_
  refine z_iadd (z_Dl e_L_law_497) ?_
  refine z_sld (z_Dl e_L_law_498) hK hL (by omega) (by omega) ?_
  refine z_callVi (M' := M_X4_line) (As := [zi (x_sc xs (i + 1)), zi (x_sc xs (i + 2))]) (rest := []) (z_Dl e_L_law_499) l_RL_72 rfl rfl rfl rfl t0 ⟨_, _, rfl⟩ (c_X4_line hX x_sc_R x_sc_R) (fun x1 m1 r1 h1 => ?_)
  have hf := f_rd hJ h1
  refine z_aload_n (z_Dl e_L_law_502) rfl ?_
  refine z_aload_n (z_Dl e_L_law_503) rfl ?_
  refine z_iload_n (z_Dl e_L_law_504) rfl ?_
  refine z_iconst (z_Dl e_L_law_505) ?_
  refine z_iadd (z_Dl e_L_law_506) ?_
  refine z_sld (z_Dl e_L_law_507) hK hL (by omega) (by omega) ?_
  refine z_aload_n (z_Dl e_L_law_508) rfl ?_
  refine z_iload_n (z_Dl e_L_law_509) rfl ?_
  refine z_iconst (z_Dl e_L_law_510) ?_
  refine z_iadd (z_Dl e_L_law_511) ?_
  refine z_sld (z_Dl e_L_law_512) hK hL (by omega) (by omega) ?_
  refine z_callVi (M' := M_X5_line) (As := [zi (x_sc xs (i + 1)), zi (x_sc xs (i + 2))]) (rest := [zi x1]) (z_Dl e_L_law_513) l_RL_75 rfl rfl rfl rfl hMO.1 ⟨_, _, rfl⟩ (d_L_line hJ hf x_sc_R x_sc_R) (fun x2 m2 r2 h2 => ?_)
  obtain ⟨hx, hJ2⟩ := j_rd hJ h1 h2
  subst hx
  refine z_same (z_Jl e_L_law_516) ?_
  exact k m2 r2 hJ2
set_option maxHeartbeats 1000000 in
set_option maxRecDepth 100000 in
theorem w_sign (hJ : z_JJ E o m r) (hK : E.2.1 K = b) (hL : L ≤ 1536) (i0 : 0 ≤ i) (i3 : i + 3 ≤ (L : Int)) (k : ∀ (m2 : z_Mi) (r2 : z_Mr), z_JJ E o m2 r2 → z_A (M_W nm b L xs) E 650 14362 683 [some (zo K), some (zo 0), some (zo o), some (zi i)] [] m2 r2 Q) : z_A (M_W nm b L xs) E 650 14362 521 [some (zo K), some (zo 0), some (zo o), some (zi i)] [] m r Q := by
  obtain ⟨ho, ⟨nx, hX⟩, hMO, hb1, hb⟩ := id hJ
  have t0 := hX.1.1
  refine z_aload_n (z_Dl e_L_law_521) rfl ?_
  refine z_aload_n (z_Dl e_L_law_522) rfl ?_
  refine z_iload_n (z_Dl e_L_law_523) rfl ?_
  refine z_iconst (z_Dl e_L_law_524) ?_
  refine z_iadd (z_Dl e_L_law_525) ?_
  refine z_sld (z_Dl e_L_law_526) hK hL (by omega) (by omega) ?_
  refine z_aload_n (z_Dl e_L_law_527) rfl ?_
  refine z_iload_n (z_Dl e_L_law_528) rfl ?_
  refine z_iconst (z_Dl e_L_law_529) ?_
  refine z_iadd (z_Dl e_L_law_530) ?_
  refine z_sld (z_Dl e_L_law_531) hK hL (by omega) (by omega) ?_
  refine z_callVi (M' := M_X4_sign) (As := [zi (x_sc xs (i + 1)), zi (x_sc xs (i + 2))]) (rest := []) (z_Dl e_L_law_532) l_RL_76 rfl rfl rfl rfl t0 ⟨_, _, rfl⟩ (c_X4_sign hX x_sc_R x_sc_R) (fun x1 m1 r1 h1 => ?_)
  have hf := f_rq hJ h1
  refine z_aload_n (z_Dl e_L_law_535) rfl ?_
  refine z_aload_n (z_Dl e_L_law_536) rfl ?_
  refine z_iload_n (z_Dl e_L_law_537) rfl ?_
  refine z_iconst (z_Dl e_L_law_538) ?_
  refine z_iadd (z_Dl e_L_law_539) ?_
  refine z_sld (z_Dl e_L_law_540) hK hL (by omega) (by omega) ?_
  refine z_aload_n (z_Dl e_L_law_541) rfl ?_
  refine z_iload_n (z_Dl e_L_law_542) rfl ?_
  refine z_iconst (z_Dl e_L_law_543) ?_
  refine z_iadd (z_Dl e_L_law_544) ?_
  refine z_sld (z_Dl e_L_law_545) hK hL (by omega) (by omega) ?_
  refine z_callVi (M' := M_X5_sign) (As := [zi (x_sc xs (i + 1)), zi (x_sc xs (i + 2))]) (rest := [zi x1]) (z_Dl e_L_law_546) l_RL_79 rfl rfl rfl rfl hMO.1 ⟨_, _, rfl⟩ (d_L_sign hJ hf x_sc_R x_sc_R) (fun x2 m2 r2 h2 => ?_)
  obtain ⟨hx, hJ2⟩ := j_rq hJ h1 h2
  subst hx
  refine z_same (z_Jl e_L_law_549) ?_
  exact k m2 r2 hJ2
set_option maxHeartbeats 1000000 in
set_option maxRecDepth 100000 in
theorem w_cursor (hJ : z_JJ E o m r) (hK : E.2.1 K = b) (hL : L ≤ 1536) (i0 : 0 ≤ i) (i3 : i + 3 ≤ (L : Int)) (k : ∀ (m2 : z_Mi) (r2 : z_Mr), z_JJ E o m2 r2 → z_A (M_W nm b L xs) E 650 14362 683 [some (zo K), some (zo 0), some (zo o), some (zi i)] [] m2 r2 Q) : z_A (M_W nm b L xs) E 650 14362 554 [some (zo K), some (zo 0), some (zo o), some (zi i)] [] m r Q := by
  obtain ⟨ho, ⟨nx, hX⟩, hMO, hb1, hb⟩ := id hJ
  have t0 := hX.1.1
  refine z_aload_n (z_Dl e_L_law_554) rfl ?_
  refine z_aload_n (z_Dl e_L_law_555) rfl ?_
  refine z_iload_n (z_Dl e_L_law_556) rfl ?_
  refine z_iconst (z_Dl e_L_law_557) ?_
  refine z_iadd (z_Dl e_L_law_558) ?_
  refine z_sld (z_Dl e_L_law_559) hK hL (by omega) (by omega) ?_
  refine z_aload_n (z_Dl e_L_law_560) rfl ?_
  refine z_iload_n (z_Dl e_L_law_561) rfl ?_
  refine z_iconst (z_Dl e_L_law_562) ?_
  refine z_iadd (z_Dl e_L_law_563) ?_
  refine z_sld (z_Dl e_L_law_564) hK hL (by omega) (by omega) ?_
  refine z_callVi (M' := M_X4_cursor) (As := [zi (x_sc xs (i + 1)), zi (x_sc xs (i + 2))]) (rest := []) (z_Dl e_L_law_565) l_RL_80 rfl rfl rfl rfl t0 ⟨_, _, rfl⟩ (c_X4_cursor hX x_sc_R x_sc_R) (fun x1 m1 r1 h1 => ?_)
  have hf := f_rd hJ h1
  refine z_aload_n (z_Dl e_L_law_568) rfl ?_
  refine z_aload_n (z_Dl e_L_law_569) rfl ?_
  refine z_iload_n (z_Dl e_L_law_570) rfl ?_
  refine z_iconst (z_Dl e_L_law_571) ?_
  refine z_iadd (z_Dl e_L_law_572) ?_
  refine z_sld (z_Dl e_L_law_573) hK hL (by omega) (by omega) ?_
  refine z_aload_n (z_Dl e_L_law_574) rfl ?_
  refine z_iload_n (z_Dl e_L_law_575) rfl ?_
  refine z_iconst (z_Dl e_L_law_576) ?_
  refine z_iadd (z_Dl e_L_law_577) ?_
  refine z_sld (z_Dl e_L_law_578) hK hL (by omega) (by omega) ?_
  refine z_callVi (M' := M_X5_cursor) (As := [zi (x_sc xs (i + 1)), zi (x_sc xs (i + 2))]) (rest := [zi x1]) (z_Dl e_L_law_579) l_RL_83 rfl rfl rfl rfl hMO.1 ⟨_, _, rfl⟩ (d_L_cursor hJ hf x_sc_R x_sc_R) (fun x2 m2 r2 h2 => ?_)
  obtain ⟨hx, hJ2⟩ := j_rd hJ h1 h2
  subst hx
  refine z_same (z_Jl e_L_law_582) ?_
  exact k m2 r2 hJ2
set_option maxHeartbeats 1000000 in
set_option maxRecDepth 100000 in
theorem w_ifWidth (hJ : z_JJ E o m r) (hK : E.2.1 K = b) (hL : L ≤ 1536) (i0 : 0 ≤ i) (i3 : i + 3 ≤ (L : Int)) (k : ∀ (m2 : z_Mi) (r2 : z_Mr), z_JJ E o m2 r2 → z_A (M_W nm b L xs) E 650 14362 683 [some (zo K), some (zo 0), some (zo o), some (zi i)] [] m2 r2 Q) : z_A (M_W nm b L xs) E 650 14362 587 [some (zo K), some (zo 0), some (zo o), some (zi i)] [] m r Q := by
  obtain ⟨ho, ⟨nx, hX⟩, hMO, hb1, hb⟩ := id hJ
  have t0 := hX.1.1
  refine z_aload_n (z_Dl e_L_law_587) rfl ?_
  refine z_aload_n (z_Dl e_L_law_588) rfl ?_
  refine z_iload_n (z_Dl e_L_law_589) rfl ?_
  refine z_iconst (z_Dl e_L_law_590) ?_
  refine z_iadd (z_Dl e_L_law_591) ?_
  refine z_sld (z_Dl e_L_law_592) hK hL (by omega) (by omega) ?_
  refine z_callVi (M' := M_X4_ifWidth) (As := [zi (x_sc xs (i + 1))]) (rest := []) (z_Dl e_L_law_593) l_RL_84 rfl rfl rfl rfl t0 ⟨_, _, rfl⟩ (c_X4_ifWidth hX x_sc_R) (fun x1 m1 r1 h1 => ?_)
  have hf := f_rq hJ h1
  refine z_aload_n (z_Dl e_L_law_596) rfl ?_
  refine z_aload_n (z_Dl e_L_law_597) rfl ?_
  refine z_iload_n (z_Dl e_L_law_598) rfl ?_
  refine z_iconst (z_Dl e_L_law_599) ?_
  refine z_iadd (z_Dl e_L_law_600) ?_
  refine z_sld (z_Dl e_L_law_601) hK hL (by omega) (by omega) ?_
  refine z_callVi (M' := M_X5_ifWidth) (As := [zi (x_sc xs (i + 1))]) (rest := [zi x1]) (z_Dl e_L_law_602) l_RL_87 rfl rfl rfl rfl hMO.1 ⟨_, _, rfl⟩ (d_L_ifWidth hJ hf x_sc_R) (fun x2 m2 r2 h2 => ?_)
  obtain ⟨hx, hJ2⟩ := j_rp hJ h1 h2
  subst hx
  refine z_same (z_Jl e_L_law_605) ?_
  exact k m2 r2 hJ2
set_option maxHeartbeats 1000000 in
set_option maxRecDepth 100000 in
theorem w_widthFor (hJ : z_JJ E o m r) (hK : E.2.1 K = b) (hL : L ≤ 1536) (i0 : 0 ≤ i) (i3 : i + 3 ≤ (L : Int)) (k : ∀ (m2 : z_Mi) (r2 : z_Mr), z_JJ E o m2 r2 → z_A (M_W nm b L xs) E 650 14362 683 [some (zo K), some (zo 0), some (zo o), some (zi i)] [] m2 r2 Q) : z_A (M_W nm b L xs) E 650 14362 610 [some (zo K), some (zo 0), some (zo o), some (zi i)] [] m r Q := by
  obtain ⟨ho, ⟨nx, hX⟩, hMO, hb1, hb⟩ := id hJ
  have t0 := hX.1.1
  refine z_aload_n (z_Dl e_L_law_610) rfl ?_
  refine z_aload_n (z_Dl e_L_law_611) rfl ?_
  refine z_iload_n (z_Dl e_L_law_612) rfl ?_
  refine z_iconst (z_Dl e_L_law_613) ?_
  refine z_iadd (z_Dl e_L_law_614) ?_
  refine z_sld (z_Dl e_L_law_615) hK hL (by omega) (by omega) ?_
  refine z_callVi (M' := M_X4_widthFor) (As := [zi (x_sc xs (i + 1))]) (rest := []) (z_Dl e_L_law_616) l_RL_88 rfl rfl rfl rfl t0 ⟨_, _, rfl⟩ (c_X4_widthFor hX x_sc_R) (fun x1 m1 r1 h1 => ?_)
  have hf := f_rq hJ h1
  refine z_aload_n (z_Dl e_L_law_619) rfl ?_
  refine z_aload_n (z_Dl e_L_law_620) rfl ?_
  refine z_iload_n (z_Dl e_L_law_621) rfl ?_
  refine z_iconst (z_Dl e_L_law_622) ?_
  refine z_iadd (z_Dl e_L_law_623) ?_
  refine z_sld (z_Dl e_L_law_624) hK hL (by omega) (by omega) ?_
  refine z_callVi (M' := M_X5_widthFor) (As := [zi (x_sc xs (i + 1))]) (rest := [zi x1]) (z_Dl e_L_law_625) l_RL_91 rfl rfl rfl rfl hMO.1 ⟨_, _, rfl⟩ (d_L_widthFor hJ hf x_sc_R) (fun x2 m2 r2 h2 => ?_)
  obtain ⟨hx, hJ2⟩ := j_rp hJ h1 h2
  subst hx
  refine z_same (z_Jl e_L_law_628) ?_
  exact k m2 r2 hJ2
set_option maxHeartbeats 1000000 in
set_option maxRecDepth 100000 in
theorem w_told (hJ : z_JJ E o m r) (hK : E.2.1 K = b) (hL : L ≤ 1536) (i0 : 0 ≤ i) (i3 : i + 3 ≤ (L : Int)) (k : ∀ (m2 : z_Mi) (r2 : z_Mr), z_JJ E o m2 r2 → z_A (M_W nm b L xs) E 650 14362 683 [some (zo K), some (zo 0), some (zo o), some (zi i)] [] m2 r2 Q) : z_A (M_W nm b L xs) E 650 14362 633 [some (zo K), some (zo 0), some (zo o), some (zi i)] [] m r Q := by
  obtain ⟨ho, ⟨nx, hX⟩, hMO, hb1, hb⟩ := id hJ
  have t0 := hX.1.1
  refine z_aload_n (z_Dl e_L_law_633) rfl ?_
  refine z_aload_n (z_Dl e_L_law_634) rfl ?_
  refine z_iload_n (z_Dl e_L_law_635) rfl ?_
  refine z_iconst (z_Dl e_L_law_636) ?_
  refine z_iadd (z_Dl e_L_law_637) ?_
  refine z_sld (z_Dl e_L_law_638) hK hL (by omega) (by omega) ?_
  refine z_callVi (M' := M_X4_told) (As := [zi (x_sc xs (i + 1))]) (rest := []) (z_Dl e_L_law_639) l_RL_92 rfl rfl rfl rfl t0 ⟨_, _, rfl⟩ (c_X4_told hX x_sc_R) (fun x1 m1 r1 h1 => ?_)
  have hf := f_rd hJ h1
  refine z_aload_n (z_Dl e_L_law_642) rfl ?_
  refine z_aload_n (z_Dl e_L_law_643) rfl ?_
  refine z_iload_n (z_Dl e_L_law_644) rfl ?_
  refine z_iconst (z_Dl e_L_law_645) ?_
  refine z_iadd (z_Dl e_L_law_646) ?_
  refine z_sld (z_Dl e_L_law_647) hK hL (by omega) (by omega) ?_
  refine z_callVi (M' := M_X5_told) (As := [zi (x_sc xs (i + 1))]) (rest := [zi x1]) (z_Dl e_L_law_648) l_RL_95 rfl rfl rfl rfl hMO.1 ⟨_, _, rfl⟩ (d_L_told hJ hf x_sc_R) (fun x2 m2 r2 h2 => ?_)
  obtain ⟨hx, hJ2⟩ := j_rd hJ h1 h2
  subst hx
  refine z_same (z_Jl e_L_law_651) ?_
  exact k m2 r2 hJ2
set_option maxHeartbeats 1000000 in
set_option maxRecDepth 100000 in
theorem w_undo (hJ : z_JJ E o m r) (hK : E.2.1 K = b) (hL : L ≤ 1536) (i0 : 0 ≤ i) (i3 : i + 3 ≤ (L : Int)) (k : ∀ (m2 : z_Mi) (r2 : z_Mr), z_JJ E o m2 r2 → z_A (M_W nm b L xs) E 650 14362 683 [some (zo K), some (zo 0), some (zo o), some (zi i)] [] m2 r2 Q) : z_A (M_W nm b L xs) E 650 14362 656 [some (zo K), some (zo 0), some (zo o), some (zi i)] [] m r Q := by
  obtain ⟨ho, ⟨nx, hX⟩, hMO, hb1, hb⟩ := id hJ
  have t0 := hX.1.1
  refine z_aload_n (z_Dl e_L_law_656) rfl ?_
  refine z_callVi (M' := M_X4_undo) (As := []) (rest := []) (z_Dl e_L_law_657) l_RL_96 rfl rfl rfl rfl t0 ⟨_, _, rfl⟩ (c_X4_undo hX) (fun x1 m1 r1 h1 => ?_)
  have hf := f_undo hJ h1
  refine z_aload_n (z_Dl e_L_law_660) rfl ?_
  refine z_callVi (M' := M_X5_undo) (As := []) (rest := [zi x1]) (z_Dl e_L_law_661) l_RL_99 rfl rfl rfl rfl hMO.1 ⟨_, _, rfl⟩ (d_L_undo hJ hf) (fun x2 m2 r2 h2 => ?_)
  obtain ⟨hx, hJ2⟩ := j_undo hJ h1 h2
  subst hx
  refine z_same (z_Jl e_L_law_664) ?_
  exact k m2 r2 hJ2
set_option maxHeartbeats 1000000 in
set_option maxRecDepth 100000 in
theorem w_digest (hJ : z_JJ E o m r) (hK : E.2.1 K = b) (hL : L ≤ 1536) (i0 : 0 ≤ i) (i3 : i + 3 ≤ (L : Int)) (k : ∀ (m2 : z_Mi) (r2 : z_Mr), z_JJ E o m2 r2 → z_A (M_W nm b L xs) E 650 14362 683 [some (zo K), some (zo 0), some (zo o), some (zi i)] [] m2 r2 Q) : z_A (M_W nm b L xs) E 650 14362 669 [some (zo K), some (zo 0), some (zo o), some (zi i)] [] m r Q := by
  obtain ⟨ho, ⟨nx, hX⟩, hMO, hb1, hb⟩ := id hJ
  have t0 := hX.1.1
  refine z_aload_n (z_Dl e_L_law_669) rfl ?_
  refine z_callVl (M' := M_X4_digest) (As := []) (rest := []) (z_Dl e_L_law_670) l_RL_100 rfl rfl rfl rfl t0 ⟨_, _, rfl⟩ (c_X4_digest hX) (fun x1 m1 r1 h1 => ?_)
  have hf := f_rq hJ h1
  refine z_aload_n (z_Dl e_L_law_673) rfl ?_
  refine z_callVl (M' := M_X5_digest) (As := []) (rest := [zl x1]) (z_Dl e_L_law_674) l_RL_104 rfl rfl rfl rfl hMO.1 ⟨_, _, rfl⟩ (d_L_digest hJ hf) (fun x2 m2 r2 h2 => ?_)
  obtain ⟨hx, hJ2⟩ := j_rp hJ h1 h2
  subst hx
  refine z_lcmpE (z_Dl e_L_law_677) ?_
  refine z_if_eq (z_Jl e_L_law_678) (by decide) (fun _ => ?_) (fun hq => absurd rfl hq)
  exact k m2 r2 hJ2
end ZLC
