/-! the law's loop -/
theorem lw_c_singer {x : xX} {g : xG} {b L k K : Nat} {xs : Nat → Int32} {M : xM} {Q : State → Prop} (hC : x_cx x g room_1 code RL 4 wsL_law) (hX : x_scr x g b L xs) (hk : 4 * k + 4 ≤ L) (hL : L ≤ 2048) (hi : q_inv K M) (hK : K + 20 < 1000000) (kk : ∀ N, q_inv (K + 20) N → x_W x g 4 Q N 842 [(3, .int (nI (4 * k))), (2, .ref (x_a g 193)), (1, .ref (x_a g 180)), (0, .ref b)] []) : x_W x g 4 Q M 144 [(3, .int (nI (4 * k))), (2, .ref (x_a g 193)), (1, .ref (x_a g 180)), (0, .ref b)] [] := by
  have h := st_singer (g := g) (xs (4 * k + 1)) (xs (4 * k + 2)) hi
  refine x_aload_n (i := 1) (q := 2) hC dL_law_144 rfl rfl ?_
  refine x_arg (k := 4 * k) (j := 1) hC hX rfl rfl (by decide) (by omega) hL dL_law_145 dL_law_146 dL_law_147 dL_law_148 dL_law_149 ?_
  refine x_arg (k := 4 * k) (j := 2) hC hX rfl rfl (by decide) (by omega) hL dL_law_150 dL_law_151 dL_law_152 dL_law_153 dL_law_154 ?_
  refine x_callVi (q := (RX9, TX9, 7)) (As := [.int (xs (4 * k + 1)), .int (xs (4 * k + 2))]) hC xo_180 rfl h gL_law_X9_singer rfl rfl rfl hy_X9_singer ⟨Nat.le_of_ble_eq_true rfl, Nat.le_of_ble_eq_true rfl⟩ rfl (Nat.le_of_ble_eq_true rfl) rfl dL_law_155 (fun r1 N1 h => ?_)
  refine x_aload_n (i := 2) (q := 1) hC dL_law_158 rfl rfl ?_
  refine x_arg (k := 4 * k) (j := 1) hC hX rfl rfl (by decide) (by omega) hL dL_law_159 dL_law_160 dL_law_161 dL_law_162 dL_law_163 ?_
  refine x_arg (k := 4 * k) (j := 2) hC hX rfl rfl (by decide) (by omega) hL dL_law_164 dL_law_165 dL_law_166 dL_law_167 dL_law_168 ?_
  refine x_callVi (q := (RX10, TX10, 12)) (As := [.int (xs (4 * k + 1)), .int (xs (4 * k + 2))]) hC xo_193 rfl h gL_law_X10_singer rfl rfl rfl hy_X10_singer ⟨Nat.le_of_ble_eq_true rfl, Nat.le_of_ble_eq_true rfl⟩ rfl (Nat.le_of_ble_eq_true rfl) rfl dL_law_169 (fun r2 N2 h => ?_)
  exact x_icmp_eq (t := 842) hC dL_law_172 (by decide) (fun _ => kk N2 h.2) (fun q => absurd h.1 q)
theorem lw_c_song {x : xX} {g : xG} {b L k K : Nat} {xs : Nat → Int32} {M : xM} {Q : State → Prop} (hC : x_cx x g room_1 code RL 4 wsL_law) (hX : x_scr x g b L xs) (hk : 4 * k + 4 ≤ L) (hL : L ≤ 2048) (hi : q_inv K M) (hK : K + 20 < 1000000) (kk : ∀ N, q_inv (K + 20) N → x_W x g 4 Q N 842 [(3, .int (nI (4 * k))), (2, .ref (x_a g 193)), (1, .ref (x_a g 180)), (0, .ref b)] []) : x_W x g 4 Q M 177 [(3, .int (nI (4 * k))), (2, .ref (x_a g 193)), (1, .ref (x_a g 180)), (0, .ref b)] [] := by
  have h := st_song (g := g) (xs (4 * k + 1)) (xs (4 * k + 2)) (xs (4 * k + 3)) hi
  refine x_aload_n (i := 1) (q := 2) hC dL_law_177 rfl rfl ?_
  refine x_arg (k := 4 * k) (j := 1) hC hX rfl rfl (by decide) (by omega) hL dL_law_178 dL_law_179 dL_law_180 dL_law_181 dL_law_182 ?_
  refine x_arg (k := 4 * k) (j := 2) hC hX rfl rfl (by decide) (by omega) hL dL_law_183 dL_law_184 dL_law_185 dL_law_186 dL_law_187 ?_
  refine x_arg (k := 4 * k) (j := 3) hC hX rfl rfl (by decide) (by omega) hL dL_law_188 dL_law_189 dL_law_190 dL_law_191 dL_law_192 ?_
  refine x_callVi (q := (RX9, TX9, 7)) (As := [.int (xs (4 * k + 1)), .int (xs (4 * k + 2)), .int (xs (4 * k + 3))]) hC xo_180 rfl h gL_law_X9_song rfl rfl rfl hy_X9_song ⟨Nat.le_of_ble_eq_true rfl, Nat.le_of_ble_eq_true rfl⟩ rfl (Nat.le_of_ble_eq_true rfl) rfl dL_law_193 (fun r1 N1 h => ?_)
  refine x_aload_n (i := 2) (q := 1) hC dL_law_196 rfl rfl ?_
  refine x_arg (k := 4 * k) (j := 1) hC hX rfl rfl (by decide) (by omega) hL dL_law_197 dL_law_198 dL_law_199 dL_law_200 dL_law_201 ?_
  refine x_arg (k := 4 * k) (j := 2) hC hX rfl rfl (by decide) (by omega) hL dL_law_202 dL_law_203 dL_law_204 dL_law_205 dL_law_206 ?_
  refine x_arg (k := 4 * k) (j := 3) hC hX rfl rfl (by decide) (by omega) hL dL_law_207 dL_law_208 dL_law_209 dL_law_210 dL_law_211 ?_
  refine x_callVi (q := (RX10, TX10, 12)) (As := [.int (xs (4 * k + 1)), .int (xs (4 * k + 2)), .int (xs (4 * k + 3))]) hC xo_193 rfl h gL_law_X10_song rfl rfl rfl hy_X10_song ⟨Nat.le_of_ble_eq_true rfl, Nat.le_of_ble_eq_true rfl⟩ rfl (Nat.le_of_ble_eq_true rfl) rfl dL_law_212 (fun r2 N2 h => ?_)
  exact x_icmp_eq (t := 842) hC dL_law_215 (by decide) (fun _ => kk N2 h.2) (fun q => absurd h.1 q)
theorem lw_c_leave {x : xX} {g : xG} {b L k K : Nat} {xs : Nat → Int32} {M : xM} {Q : State → Prop} (hC : x_cx x g room_1 code RL 4 wsL_law) (hX : x_scr x g b L xs) (hk : 4 * k + 4 ≤ L) (hL : L ≤ 2048) (hi : q_inv K M) (hK : K + 20 < 1000000) (kk : ∀ N, q_inv (K + 20) N → x_W x g 4 Q N 842 [(3, .int (nI (4 * k))), (2, .ref (x_a g 193)), (1, .ref (x_a g 180)), (0, .ref b)] []) : x_W x g 4 Q M 220 [(3, .int (nI (4 * k))), (2, .ref (x_a g 193)), (1, .ref (x_a g 180)), (0, .ref b)] [] := by
  refine x_aload_n (i := 1) (q := 2) hC dL_law_220 rfl rfl ?_
  refine x_arg (k := 4 * k) (j := 1) hC hX rfl rfl (by decide) (by omega) hL dL_law_221 dL_law_222 dL_law_223 dL_law_224 dL_law_225 ?_
  refine x_arg (k := 4 * k) (j := 2) hC hX rfl rfl (by decide) (by omega) hL dL_law_226 dL_law_227 dL_law_228 dL_law_229 dL_law_230 ?_
  refine x_if_eq (t := 238) hC dL_law_231 (by decide) (fun q => ?_) (fun q => ?_)
  · have h := st_leave (g := g) (xs (4 * k + 1)) false hi
    refine x_iconst (v := 0) hC dL_law_238 (by decide) ?_
    refine x_callVi (q := (RX9, TX9, 7)) (As := [.int (xs (4 * k + 1)), .int 0]) hC xo_180 rfl h gL_law_X9_leave rfl rfl rfl hy_X9_leave ⟨Nat.le_of_ble_eq_true rfl, Nat.le_of_ble_eq_true rfl⟩ rfl (Nat.le_of_ble_eq_true rfl) rfl dL_law_239 (fun r1 N1 h => ?_)
    refine x_aload_n (i := 2) (q := 1) hC dL_law_242 rfl rfl ?_
    refine x_arg (k := 4 * k) (j := 1) hC hX rfl rfl (by decide) (by omega) hL dL_law_243 dL_law_244 dL_law_245 dL_law_246 dL_law_247 ?_
    refine x_arg (k := 4 * k) (j := 2) hC hX rfl rfl (by decide) (by omega) hL dL_law_248 dL_law_249 dL_law_250 dL_law_251 dL_law_252 ?_
    refine x_if_eq (t := 260) hC dL_law_253 (by decide) (fun q2 => ?_) (fun q2 => ?_)
    · refine x_iconst (v := 0) hC dL_law_260 (by decide) ?_
      refine x_callVi (q := (RX10, TX10, 12)) (As := [.int (xs (4 * k + 1)), .int 0]) hC xo_193 rfl h gL_law_X10_leave rfl rfl rfl hy_X10_leave ⟨Nat.le_of_ble_eq_true rfl, Nat.le_of_ble_eq_true rfl⟩ rfl (Nat.le_of_ble_eq_true rfl) rfl dL_law_261 (fun r2 N2 h => ?_)
      exact x_icmp_eq (t := 842) hC dL_law_264 (by decide) (fun _ => kk N2 h.2) (fun q => absurd h.1 q)
    · exact absurd q q2
  · have h := st_leave (g := g) (xs (4 * k + 1)) true hi
    refine x_iconst (v := 1) hC dL_law_234 (by decide) ?_
    refine x_goto (t := 239) hC dL_law_235 (by decide) ?_
    refine x_callVi (q := (RX9, TX9, 7)) (As := [.int (xs (4 * k + 1)), .int 1]) hC xo_180 rfl h gL_law_X9_leave rfl rfl rfl hy_X9_leave ⟨Nat.le_of_ble_eq_true rfl, Nat.le_of_ble_eq_true rfl⟩ rfl (Nat.le_of_ble_eq_true rfl) rfl dL_law_239 (fun r1 N1 h => ?_)
    refine x_aload_n (i := 2) (q := 1) hC dL_law_242 rfl rfl ?_
    refine x_arg (k := 4 * k) (j := 1) hC hX rfl rfl (by decide) (by omega) hL dL_law_243 dL_law_244 dL_law_245 dL_law_246 dL_law_247 ?_
    refine x_arg (k := 4 * k) (j := 2) hC hX rfl rfl (by decide) (by omega) hL dL_law_248 dL_law_249 dL_law_250 dL_law_251 dL_law_252 ?_
    refine x_if_eq (t := 260) hC dL_law_253 (by decide) (fun q2 => ?_) (fun q2 => ?_)
    · exact absurd q2 q
    · refine x_iconst (v := 1) hC dL_law_256 (by decide) ?_
      refine x_goto (t := 261) hC dL_law_257 (by decide) ?_
      refine x_callVi (q := (RX10, TX10, 12)) (As := [.int (xs (4 * k + 1)), .int 1]) hC xo_193 rfl h gL_law_X10_leave rfl rfl rfl hy_X10_leave ⟨Nat.le_of_ble_eq_true rfl, Nat.le_of_ble_eq_true rfl⟩ rfl (Nat.le_of_ble_eq_true rfl) rfl dL_law_261 (fun r2 N2 h => ?_)
      exact x_icmp_eq (t := 842) hC dL_law_264 (by decide) (fun _ => kk N2 h.2) (fun q => absurd h.1 q)
theorem lw_c_wish {x : xX} {g : xG} {b L k K : Nat} {xs : Nat → Int32} {M : xM} {Q : State → Prop} (hC : x_cx x g room_1 code RL 4 wsL_law) (hX : x_scr x g b L xs) (hk : 4 * k + 4 ≤ L) (hL : L ≤ 2048) (hi : q_inv K M) (hK : K + 20 < 1000000) (kk : ∀ N, q_inv (K + 20) N → x_W x g 4 Q N 842 [(3, .int (nI (4 * k))), (2, .ref (x_a g 193)), (1, .ref (x_a g 180)), (0, .ref b)] []) : x_W x g 4 Q M 269 [(3, .int (nI (4 * k))), (2, .ref (x_a g 193)), (1, .ref (x_a g 180)), (0, .ref b)] [] := by
  have h := st_wish (g := g) (xs (4 * k + 1)) (xs (4 * k + 2)) (xs (4 * k + 3)) hi
  refine x_aload_n (i := 1) (q := 2) hC dL_law_269 rfl rfl ?_
  refine x_arg (k := 4 * k) (j := 1) hC hX rfl rfl (by decide) (by omega) hL dL_law_270 dL_law_271 dL_law_272 dL_law_273 dL_law_274 ?_
  refine x_arg (k := 4 * k) (j := 2) hC hX rfl rfl (by decide) (by omega) hL dL_law_275 dL_law_276 dL_law_277 dL_law_278 dL_law_279 ?_
  refine x_arg (k := 4 * k) (j := 3) hC hX rfl rfl (by decide) (by omega) hL dL_law_280 dL_law_281 dL_law_282 dL_law_283 dL_law_284 ?_
  refine x_callVi (q := (RX9, TX9, 7)) (As := [.int (xs (4 * k + 1)), .int (xs (4 * k + 2)), .int (xs (4 * k + 3))]) hC xo_180 rfl h gL_law_X9_wish rfl rfl rfl hy_X9_wish ⟨Nat.le_of_ble_eq_true rfl, Nat.le_of_ble_eq_true rfl⟩ rfl (Nat.le_of_ble_eq_true rfl) rfl dL_law_285 (fun r1 N1 h => ?_)
  refine x_aload_n (i := 2) (q := 1) hC dL_law_288 rfl rfl ?_
  refine x_arg (k := 4 * k) (j := 1) hC hX rfl rfl (by decide) (by omega) hL dL_law_289 dL_law_290 dL_law_291 dL_law_292 dL_law_293 ?_
  refine x_arg (k := 4 * k) (j := 2) hC hX rfl rfl (by decide) (by omega) hL dL_law_294 dL_law_295 dL_law_296 dL_law_297 dL_law_298 ?_
  refine x_arg (k := 4 * k) (j := 3) hC hX rfl rfl (by decide) (by omega) hL dL_law_299 dL_law_300 dL_law_301 dL_law_302 dL_law_303 ?_
  refine x_callVi (q := (RX10, TX10, 12)) (As := [.int (xs (4 * k + 1)), .int (xs (4 * k + 2)), .int (xs (4 * k + 3))]) hC xo_193 rfl h gL_law_X10_wish rfl rfl rfl hy_X10_wish ⟨Nat.le_of_ble_eq_true rfl, Nat.le_of_ble_eq_true rfl⟩ rfl (Nat.le_of_ble_eq_true rfl) rfl dL_law_304 (fun r2 N2 h => ?_)
  exact x_icmp_eq (t := 842) hC dL_law_307 (by decide) (fun _ => kk N2 h.2) (fun q => absurd h.1 q)
theorem lw_c_takeBack {x : xX} {g : xG} {b L k K : Nat} {xs : Nat → Int32} {M : xM} {Q : State → Prop} (hC : x_cx x g room_1 code RL 4 wsL_law) (hX : x_scr x g b L xs) (hk : 4 * k + 4 ≤ L) (hL : L ≤ 2048) (hi : q_inv K M) (hK : K + 20 < 1000000) (kk : ∀ N, q_inv (K + 20) N → x_W x g 4 Q N 842 [(3, .int (nI (4 * k))), (2, .ref (x_a g 193)), (1, .ref (x_a g 180)), (0, .ref b)] []) : x_W x g 4 Q M 312 [(3, .int (nI (4 * k))), (2, .ref (x_a g 193)), (1, .ref (x_a g 180)), (0, .ref b)] [] := by
  have h := st_takeBack (g := g) (xs (4 * k + 1)) hi
  refine x_aload_n (i := 1) (q := 2) hC dL_law_312 rfl rfl ?_
  refine x_arg (k := 4 * k) (j := 1) hC hX rfl rfl (by decide) (by omega) hL dL_law_313 dL_law_314 dL_law_315 dL_law_316 dL_law_317 ?_
  refine x_callVi (q := (RX9, TX9, 7)) (As := [.int (xs (4 * k + 1))]) hC xo_180 rfl h gL_law_X9_takeBack rfl rfl rfl hy_X9_takeBack ⟨Nat.le_of_ble_eq_true rfl, Nat.le_of_ble_eq_true rfl⟩ rfl (Nat.le_of_ble_eq_true rfl) rfl dL_law_318 (fun r1 N1 h => ?_)
  refine x_aload_n (i := 2) (q := 1) hC dL_law_321 rfl rfl ?_
  refine x_arg (k := 4 * k) (j := 1) hC hX rfl rfl (by decide) (by omega) hL dL_law_322 dL_law_323 dL_law_324 dL_law_325 dL_law_326 ?_
  refine x_callVi (q := (RX10, TX10, 12)) (As := [.int (xs (4 * k + 1))]) hC xo_193 rfl h gL_law_X10_takeBack rfl rfl rfl hy_X10_takeBack ⟨Nat.le_of_ble_eq_true rfl, Nat.le_of_ble_eq_true rfl⟩ rfl (Nat.le_of_ble_eq_true rfl) rfl dL_law_327 (fun r2 N2 h => ?_)
  exact x_icmp_eq (t := 842) hC dL_law_330 (by decide) (fun _ => kk N2 h.2) (fun q => absurd h.1 q)
theorem lw_c_sing {x : xX} {g : xG} {b L k K : Nat} {xs : Nat → Int32} {M : xM} {Q : State → Prop} (hC : x_cx x g room_1 code RL 4 wsL_law) (hX : x_scr x g b L xs) (hk : 4 * k + 4 ≤ L) (hL : L ≤ 2048) (hi : q_inv K M) (hK : K + 20 < 1000000) (kk : ∀ N, q_inv (K + 20) N → x_W x g 4 Q N 842 [(3, .int (nI (4 * k))), (2, .ref (x_a g 193)), (1, .ref (x_a g 180)), (0, .ref b)] []) : x_W x g 4 Q M 335 [(3, .int (nI (4 * k))), (2, .ref (x_a g 193)), (1, .ref (x_a g 180)), (0, .ref b)] [] := by
  have h := st_sing (g := g) (xs (4 * k + 1)) hi hK
  refine x_aload_n (i := 1) (q := 2) hC dL_law_335 rfl rfl ?_
  refine x_arg (k := 4 * k) (j := 1) hC hX rfl rfl (by decide) (by omega) hL dL_law_336 dL_law_337 dL_law_338 dL_law_339 dL_law_340 ?_
  refine x_callVi (q := (RX9, TX9, 7)) (As := [.int (xs (4 * k + 1))]) hC xo_180 rfl h gL_law_X9_sing rfl rfl rfl hy_X9_sing ⟨Nat.le_of_ble_eq_true rfl, Nat.le_of_ble_eq_true rfl⟩ rfl (Nat.le_of_ble_eq_true rfl) rfl dL_law_341 (fun r1 N1 h => ?_)
  refine x_aload_n (i := 2) (q := 1) hC dL_law_344 rfl rfl ?_
  refine x_arg (k := 4 * k) (j := 1) hC hX rfl rfl (by decide) (by omega) hL dL_law_345 dL_law_346 dL_law_347 dL_law_348 dL_law_349 ?_
  refine x_callVi (q := (RX10, TX10, 12)) (As := [.int (xs (4 * k + 1))]) hC xo_193 rfl h gL_law_X10_sing rfl rfl rfl hy_X10_sing ⟨Nat.le_of_ble_eq_true rfl, Nat.le_of_ble_eq_true rfl⟩ rfl (Nat.le_of_ble_eq_true rfl) rfl dL_law_350 (fun r2 N2 h => ?_)
  exact x_icmp_eq (t := 842) hC dL_law_353 (by decide) (fun _ => kk N2 h.2) (fun q => absurd h.1 q)
theorem lw_c_read {x : xX} {g : xG} {b L k K : Nat} {xs : Nat → Int32} {M : xM} {Q : State → Prop} (hC : x_cx x g room_1 code RL 4 wsL_law) (hX : x_scr x g b L xs) (hk : 4 * k + 4 ≤ L) (hL : L ≤ 2048) (hi : q_inv K M) (hK : K + 20 < 1000000) (kk : ∀ N, q_inv (K + 20) N → x_W x g 4 Q N 842 [(3, .int (nI (4 * k))), (2, .ref (x_a g 193)), (1, .ref (x_a g 180)), (0, .ref b)] []) : x_W x g 4 Q M 358 [(3, .int (nI (4 * k))), (2, .ref (x_a g 193)), (1, .ref (x_a g 180)), (0, .ref b)] [] := by
  have h := st_read (g := g)  hi
  refine x_aload_n (i := 1) (q := 2) hC dL_law_358 rfl rfl ?_
  refine x_callVi (q := (RX9, TX9, 7)) (As := []) hC xo_180 rfl h gL_law_X9_read rfl rfl rfl hy_X9_read ⟨Nat.le_of_ble_eq_true rfl, Nat.le_of_ble_eq_true rfl⟩ rfl (Nat.le_of_ble_eq_true rfl) rfl dL_law_359 (fun r1 N1 h => ?_)
  refine x_aload_n (i := 2) (q := 1) hC dL_law_362 rfl rfl ?_
  refine x_callVi (q := (RX10, TX10, 12)) (As := []) hC xo_193 rfl h gL_law_X10_read rfl rfl rfl hy_X10_read ⟨Nat.le_of_ble_eq_true rfl, Nat.le_of_ble_eq_true rfl⟩ rfl (Nat.le_of_ble_eq_true rfl) rfl dL_law_363 (fun r2 N2 h => ?_)
  exact x_icmp_eq (t := 842) hC dL_law_366 (by decide) (fun _ => kk N2 h.2) (fun q => absurd h.1 q)
theorem lw_c_of {x : xX} {g : xG} {b L k K : Nat} {xs : Nat → Int32} {M : xM} {Q : State → Prop} (hC : x_cx x g room_1 code RL 4 wsL_law) (hX : x_scr x g b L xs) (hk : 4 * k + 4 ≤ L) (hL : L ≤ 2048) (hi : q_inv K M) (hK : K + 20 < 1000000) (kk : ∀ N, q_inv (K + 20) N → x_W x g 4 Q N 842 [(3, .int (nI (4 * k))), (2, .ref (x_a g 193)), (1, .ref (x_a g 180)), (0, .ref b)] []) : x_W x g 4 Q M 371 [(3, .int (nI (4 * k))), (2, .ref (x_a g 193)), (1, .ref (x_a g 180)), (0, .ref b)] [] := by
  have h := st_of (g := g) (xs (4 * k + 1)) (xs (4 * k + 2)) hi
  refine x_aload_n (i := 1) (q := 2) hC dL_law_371 rfl rfl ?_
  refine x_arg (k := 4 * k) (j := 1) hC hX rfl rfl (by decide) (by omega) hL dL_law_372 dL_law_373 dL_law_374 dL_law_375 dL_law_376 ?_
  refine x_arg (k := 4 * k) (j := 2) hC hX rfl rfl (by decide) (by omega) hL dL_law_377 dL_law_378 dL_law_379 dL_law_380 dL_law_381 ?_
  refine x_callVi (q := (RX9, TX9, 7)) (As := [.int (xs (4 * k + 1)), .int (xs (4 * k + 2))]) hC xo_180 rfl h gL_law_X9_of rfl rfl rfl hy_X9_of ⟨Nat.le_of_ble_eq_true rfl, Nat.le_of_ble_eq_true rfl⟩ rfl (Nat.le_of_ble_eq_true rfl) rfl dL_law_382 (fun r1 N1 h => ?_)
  refine x_aload_n (i := 2) (q := 1) hC dL_law_385 rfl rfl ?_
  refine x_arg (k := 4 * k) (j := 1) hC hX rfl rfl (by decide) (by omega) hL dL_law_386 dL_law_387 dL_law_388 dL_law_389 dL_law_390 ?_
  refine x_arg (k := 4 * k) (j := 2) hC hX rfl rfl (by decide) (by omega) hL dL_law_391 dL_law_392 dL_law_393 dL_law_394 dL_law_395 ?_
  refine x_callVi (q := (RX10, TX10, 12)) (As := [.int (xs (4 * k + 1)), .int (xs (4 * k + 2))]) hC xo_193 rfl h gL_law_X10_of rfl rfl rfl hy_X10_of ⟨Nat.le_of_ble_eq_true rfl, Nat.le_of_ble_eq_true rfl⟩ rfl (Nat.le_of_ble_eq_true rfl) rfl dL_law_396 (fun r2 N2 h => ?_)
  exact x_icmp_eq (t := 842) hC dL_law_399 (by decide) (fun _ => kk N2 h.2) (fun q => absurd h.1 q)
theorem lw_c_inQueue {x : xX} {g : xG} {b L k K : Nat} {xs : Nat → Int32} {M : xM} {Q : State → Prop} (hC : x_cx x g room_1 code RL 4 wsL_law) (hX : x_scr x g b L xs) (hk : 4 * k + 4 ≤ L) (hL : L ≤ 2048) (hi : q_inv K M) (hK : K + 20 < 1000000) (kk : ∀ N, q_inv (K + 20) N → x_W x g 4 Q N 842 [(3, .int (nI (4 * k))), (2, .ref (x_a g 193)), (1, .ref (x_a g 180)), (0, .ref b)] []) : x_W x g 4 Q M 404 [(3, .int (nI (4 * k))), (2, .ref (x_a g 193)), (1, .ref (x_a g 180)), (0, .ref b)] [] := by
  have h := st_inQueue (g := g) (xs (4 * k + 1)) (xs (4 * k + 2)) hi
  refine x_aload_n (i := 1) (q := 2) hC dL_law_404 rfl rfl ?_
  refine x_arg (k := 4 * k) (j := 1) hC hX rfl rfl (by decide) (by omega) hL dL_law_405 dL_law_406 dL_law_407 dL_law_408 dL_law_409 ?_
  refine x_arg (k := 4 * k) (j := 2) hC hX rfl rfl (by decide) (by omega) hL dL_law_410 dL_law_411 dL_law_412 dL_law_413 dL_law_414 ?_
  refine x_callVi (q := (RX9, TX9, 7)) (As := [.int (xs (4 * k + 1)), .int (xs (4 * k + 2))]) hC xo_180 rfl h gL_law_X9_inQueue rfl rfl rfl hy_X9_inQueue ⟨Nat.le_of_ble_eq_true rfl, Nat.le_of_ble_eq_true rfl⟩ rfl (Nat.le_of_ble_eq_true rfl) rfl dL_law_415 (fun r1 N1 h => ?_)
  refine x_aload_n (i := 2) (q := 1) hC dL_law_418 rfl rfl ?_
  refine x_arg (k := 4 * k) (j := 1) hC hX rfl rfl (by decide) (by omega) hL dL_law_419 dL_law_420 dL_law_421 dL_law_422 dL_law_423 ?_
  refine x_arg (k := 4 * k) (j := 2) hC hX rfl rfl (by decide) (by omega) hL dL_law_424 dL_law_425 dL_law_426 dL_law_427 dL_law_428 ?_
  refine x_callVi (q := (RX10, TX10, 12)) (As := [.int (xs (4 * k + 1)), .int (xs (4 * k + 2))]) hC xo_193 rfl h gL_law_X10_inQueue rfl rfl rfl hy_X10_inQueue ⟨Nat.le_of_ble_eq_true rfl, Nat.le_of_ble_eq_true rfl⟩ rfl (Nat.le_of_ble_eq_true rfl) rfl dL_law_429 (fun r2 N2 h => ?_)
  exact x_icmp_eq (t := 842) hC dL_law_432 (by decide) (fun _ => kk N2 h.2) (fun q => absurd h.1 q)
theorem lw_c_key {x : xX} {g : xG} {b L k K : Nat} {xs : Nat → Int32} {M : xM} {Q : State → Prop} (hC : x_cx x g room_1 code RL 4 wsL_law) (hX : x_scr x g b L xs) (hk : 4 * k + 4 ≤ L) (hL : L ≤ 2048) (hi : q_inv K M) (hK : K + 20 < 1000000) (kk : ∀ N, q_inv (K + 20) N → x_W x g 4 Q N 842 [(3, .int (nI (4 * k))), (2, .ref (x_a g 193)), (1, .ref (x_a g 180)), (0, .ref b)] []) : x_W x g 4 Q M 437 [(3, .int (nI (4 * k))), (2, .ref (x_a g 193)), (1, .ref (x_a g 180)), (0, .ref b)] [] := by
  have h := st_key (g := g) (xs (4 * k + 1)) (xs (4 * k + 2)) (xs (4 * k + 3)) hi
  refine x_aload_n (i := 1) (q := 2) hC dL_law_437 rfl rfl ?_
  refine x_arg (k := 4 * k) (j := 1) hC hX rfl rfl (by decide) (by omega) hL dL_law_438 dL_law_439 dL_law_440 dL_law_441 dL_law_442 ?_
  refine x_arg (k := 4 * k) (j := 2) hC hX rfl rfl (by decide) (by omega) hL dL_law_443 dL_law_444 dL_law_445 dL_law_446 dL_law_447 ?_
  refine x_arg (k := 4 * k) (j := 3) hC hX rfl rfl (by decide) (by omega) hL dL_law_448 dL_law_449 dL_law_450 dL_law_451 dL_law_452 ?_
  refine x_callVi (q := (RX9, TX9, 7)) (As := [.int (xs (4 * k + 1)), .int (xs (4 * k + 2)), .int (xs (4 * k + 3))]) hC xo_180 rfl h gL_law_X9_key rfl rfl rfl hy_X9_key ⟨Nat.le_of_ble_eq_true rfl, Nat.le_of_ble_eq_true rfl⟩ rfl (Nat.le_of_ble_eq_true rfl) rfl dL_law_453 (fun r1 N1 h => ?_)
  refine x_aload_n (i := 2) (q := 1) hC dL_law_456 rfl rfl ?_
  refine x_arg (k := 4 * k) (j := 1) hC hX rfl rfl (by decide) (by omega) hL dL_law_457 dL_law_458 dL_law_459 dL_law_460 dL_law_461 ?_
  refine x_arg (k := 4 * k) (j := 2) hC hX rfl rfl (by decide) (by omega) hL dL_law_462 dL_law_463 dL_law_464 dL_law_465 dL_law_466 ?_
  refine x_arg (k := 4 * k) (j := 3) hC hX rfl rfl (by decide) (by omega) hL dL_law_467 dL_law_468 dL_law_469 dL_law_470 dL_law_471 ?_
  refine x_callVi (q := (RX10, TX10, 12)) (As := [.int (xs (4 * k + 1)), .int (xs (4 * k + 2)), .int (xs (4 * k + 3))]) hC xo_193 rfl h gL_law_X10_key rfl rfl rfl hy_X10_key ⟨Nat.le_of_ble_eq_true rfl, Nat.le_of_ble_eq_true rfl⟩ rfl (Nat.le_of_ble_eq_true rfl) rfl dL_law_472 (fun r2 N2 h => ?_)
  exact x_icmp_eq (t := 842) hC dL_law_475 (by decide) (fun _ => kk N2 h.2) (fun q => absurd h.1 q)
theorem lw_c_ofSong {x : xX} {g : xG} {b L k K : Nat} {xs : Nat → Int32} {M : xM} {Q : State → Prop} (hC : x_cx x g room_1 code RL 4 wsL_law) (hX : x_scr x g b L xs) (hk : 4 * k + 4 ≤ L) (hL : L ≤ 2048) (hi : q_inv K M) (hK : K + 20 < 1000000) (kk : ∀ N, q_inv (K + 20) N → x_W x g 4 Q N 842 [(3, .int (nI (4 * k))), (2, .ref (x_a g 193)), (1, .ref (x_a g 180)), (0, .ref b)] []) : x_W x g 4 Q M 480 [(3, .int (nI (4 * k))), (2, .ref (x_a g 193)), (1, .ref (x_a g 180)), (0, .ref b)] [] := by
  have h := st_ofSong (g := g) (xs (4 * k + 1)) (xs (4 * k + 2)) hi
  refine x_aload_n (i := 1) (q := 2) hC dL_law_480 rfl rfl ?_
  refine x_arg (k := 4 * k) (j := 1) hC hX rfl rfl (by decide) (by omega) hL dL_law_481 dL_law_482 dL_law_483 dL_law_484 dL_law_485 ?_
  refine x_arg (k := 4 * k) (j := 2) hC hX rfl rfl (by decide) (by omega) hL dL_law_486 dL_law_487 dL_law_488 dL_law_489 dL_law_490 ?_
  refine x_callVi (q := (RX9, TX9, 7)) (As := [.int (xs (4 * k + 1)), .int (xs (4 * k + 2))]) hC xo_180 rfl h gL_law_X9_ofSong rfl rfl rfl hy_X9_ofSong ⟨Nat.le_of_ble_eq_true rfl, Nat.le_of_ble_eq_true rfl⟩ rfl (Nat.le_of_ble_eq_true rfl) rfl dL_law_491 (fun r1 N1 h => ?_)
  refine x_aload_n (i := 2) (q := 1) hC dL_law_494 rfl rfl ?_
  refine x_arg (k := 4 * k) (j := 1) hC hX rfl rfl (by decide) (by omega) hL dL_law_495 dL_law_496 dL_law_497 dL_law_498 dL_law_499 ?_
  refine x_arg (k := 4 * k) (j := 2) hC hX rfl rfl (by decide) (by omega) hL dL_law_500 dL_law_501 dL_law_502 dL_law_503 dL_law_504 ?_
  refine x_callVi (q := (RX10, TX10, 12)) (As := [.int (xs (4 * k + 1)), .int (xs (4 * k + 2))]) hC xo_193 rfl h gL_law_X10_ofSong rfl rfl rfl hy_X10_ofSong ⟨Nat.le_of_ble_eq_true rfl, Nat.le_of_ble_eq_true rfl⟩ rfl (Nat.le_of_ble_eq_true rfl) rfl dL_law_505 (fun r2 N2 h => ?_)
  exact x_icmp_eq (t := 842) hC dL_law_508 (by decide) (fun _ => kk N2 h.2) (fun q => absurd h.1 q)
theorem lw_c_past {x : xX} {g : xG} {b L k K : Nat} {xs : Nat → Int32} {M : xM} {Q : State → Prop} (hC : x_cx x g room_1 code RL 4 wsL_law) (hX : x_scr x g b L xs) (hk : 4 * k + 4 ≤ L) (hL : L ≤ 2048) (hi : q_inv K M) (hK : K + 20 < 1000000) (kk : ∀ N, q_inv (K + 20) N → x_W x g 4 Q N 842 [(3, .int (nI (4 * k))), (2, .ref (x_a g 193)), (1, .ref (x_a g 180)), (0, .ref b)] []) : x_W x g 4 Q M 513 [(3, .int (nI (4 * k))), (2, .ref (x_a g 193)), (1, .ref (x_a g 180)), (0, .ref b)] [] := by
  have h := st_past (g := g) (xs (4 * k + 1)) (xs (4 * k + 2)) hi
  refine x_aload_n (i := 1) (q := 2) hC dL_law_513 rfl rfl ?_
  refine x_arg (k := 4 * k) (j := 1) hC hX rfl rfl (by decide) (by omega) hL dL_law_514 dL_law_515 dL_law_516 dL_law_517 dL_law_518 ?_
  refine x_arg (k := 4 * k) (j := 2) hC hX rfl rfl (by decide) (by omega) hL dL_law_519 dL_law_520 dL_law_521 dL_law_522 dL_law_523 ?_
  refine x_callVi (q := (RX9, TX9, 7)) (As := [.int (xs (4 * k + 1)), .int (xs (4 * k + 2))]) hC xo_180 rfl h gL_law_X9_past rfl rfl rfl hy_X9_past ⟨Nat.le_of_ble_eq_true rfl, Nat.le_of_ble_eq_true rfl⟩ rfl (Nat.le_of_ble_eq_true rfl) rfl dL_law_524 (fun r1 N1 h => ?_)
  refine x_aload_n (i := 2) (q := 1) hC dL_law_527 rfl rfl ?_
  refine x_arg (k := 4 * k) (j := 1) hC hX rfl rfl (by decide) (by omega) hL dL_law_528 dL_law_529 dL_law_530 dL_law_531 dL_law_532 ?_
  refine x_arg (k := 4 * k) (j := 2) hC hX rfl rfl (by decide) (by omega) hL dL_law_533 dL_law_534 dL_law_535 dL_law_536 dL_law_537 ?_
  refine x_callVi (q := (RX10, TX10, 12)) (As := [.int (xs (4 * k + 1)), .int (xs (4 * k + 2))]) hC xo_193 rfl h gL_law_X10_past rfl rfl rfl hy_X10_past ⟨Nat.le_of_ble_eq_true rfl, Nat.le_of_ble_eq_true rfl⟩ rfl (Nat.le_of_ble_eq_true rfl) rfl dL_law_538 (fun r2 N2 h => ?_)
  exact x_icmp_eq (t := 842) hC dL_law_541 (by decide) (fun _ => kk N2 h.2) (fun q => absurd h.1 q)
theorem lw_c_count {x : xX} {g : xG} {b L k K : Nat} {xs : Nat → Int32} {M : xM} {Q : State → Prop} (hC : x_cx x g room_1 code RL 4 wsL_law) (hX : x_scr x g b L xs) (hk : 4 * k + 4 ≤ L) (hL : L ≤ 2048) (hi : q_inv K M) (hK : K + 20 < 1000000) (kk : ∀ N, q_inv (K + 20) N → x_W x g 4 Q N 842 [(3, .int (nI (4 * k))), (2, .ref (x_a g 193)), (1, .ref (x_a g 180)), (0, .ref b)] []) : x_W x g 4 Q M 546 [(3, .int (nI (4 * k))), (2, .ref (x_a g 193)), (1, .ref (x_a g 180)), (0, .ref b)] [] := by
  have h := st_count (g := g) (xs (4 * k + 1)) hi
  refine x_aload_n (i := 1) (q := 2) hC dL_law_546 rfl rfl ?_
  refine x_arg (k := 4 * k) (j := 1) hC hX rfl rfl (by decide) (by omega) hL dL_law_547 dL_law_548 dL_law_549 dL_law_550 dL_law_551 ?_
  refine x_callVi (q := (RX9, TX9, 7)) (As := [.int (xs (4 * k + 1))]) hC xo_180 rfl h gL_law_X9_count rfl rfl rfl hy_X9_count ⟨Nat.le_of_ble_eq_true rfl, Nat.le_of_ble_eq_true rfl⟩ rfl (Nat.le_of_ble_eq_true rfl) rfl dL_law_552 (fun r1 N1 h => ?_)
  refine x_aload_n (i := 2) (q := 1) hC dL_law_555 rfl rfl ?_
  refine x_arg (k := 4 * k) (j := 1) hC hX rfl rfl (by decide) (by omega) hL dL_law_556 dL_law_557 dL_law_558 dL_law_559 dL_law_560 ?_
  refine x_callVi (q := (RX10, TX10, 12)) (As := [.int (xs (4 * k + 1))]) hC xo_193 rfl h gL_law_X10_count rfl rfl rfl hy_X10_count ⟨Nat.le_of_ble_eq_true rfl, Nat.le_of_ble_eq_true rfl⟩ rfl (Nat.le_of_ble_eq_true rfl) rfl dL_law_561 (fun r2 N2 h => ?_)
  exact x_icmp_eq (t := 842) hC dL_law_564 (by decide) (fun _ => kk N2 h.2) (fun q => absurd h.1 q)
theorem lw_c_turnOf {x : xX} {g : xG} {b L k K : Nat} {xs : Nat → Int32} {M : xM} {Q : State → Prop} (hC : x_cx x g room_1 code RL 4 wsL_law) (hX : x_scr x g b L xs) (hk : 4 * k + 4 ≤ L) (hL : L ≤ 2048) (hi : q_inv K M) (hK : K + 20 < 1000000) (kk : ∀ N, q_inv (K + 20) N → x_W x g 4 Q N 842 [(3, .int (nI (4 * k))), (2, .ref (x_a g 193)), (1, .ref (x_a g 180)), (0, .ref b)] []) : x_W x g 4 Q M 569 [(3, .int (nI (4 * k))), (2, .ref (x_a g 193)), (1, .ref (x_a g 180)), (0, .ref b)] [] := by
  have h := st_turnOf (g := g) (xs (4 * k + 1)) (xs (4 * k + 2)) hi hK
  refine x_aload_n (i := 1) (q := 2) hC dL_law_569 rfl rfl ?_
  refine x_arg (k := 4 * k) (j := 1) hC hX rfl rfl (by decide) (by omega) hL dL_law_570 dL_law_571 dL_law_572 dL_law_573 dL_law_574 ?_
  refine x_arg (k := 4 * k) (j := 2) hC hX rfl rfl (by decide) (by omega) hL dL_law_575 dL_law_576 dL_law_577 dL_law_578 dL_law_579 ?_
  refine x_callVi (q := (RX9, TX9, 7)) (As := [.int (xs (4 * k + 1)), .int (xs (4 * k + 2))]) hC xo_180 rfl h gL_law_X9_turnOf rfl rfl rfl hy_X9_turnOf ⟨Nat.le_of_ble_eq_true rfl, Nat.le_of_ble_eq_true rfl⟩ rfl (Nat.le_of_ble_eq_true rfl) rfl dL_law_580 (fun r1 N1 h => ?_)
  refine x_aload_n (i := 2) (q := 1) hC dL_law_583 rfl rfl ?_
  refine x_arg (k := 4 * k) (j := 1) hC hX rfl rfl (by decide) (by omega) hL dL_law_584 dL_law_585 dL_law_586 dL_law_587 dL_law_588 ?_
  refine x_arg (k := 4 * k) (j := 2) hC hX rfl rfl (by decide) (by omega) hL dL_law_589 dL_law_590 dL_law_591 dL_law_592 dL_law_593 ?_
  refine x_callVi (q := (RX10, TX10, 12)) (As := [.int (xs (4 * k + 1)), .int (xs (4 * k + 2))]) hC xo_193 rfl h gL_law_X10_turnOf rfl rfl rfl hy_X10_turnOf ⟨Nat.le_of_ble_eq_true rfl, Nat.le_of_ble_eq_true rfl⟩ rfl (Nat.le_of_ble_eq_true rfl) rfl dL_law_594 (fun r2 N2 h => ?_)
  exact x_icmp_eq (t := 842) hC dL_law_597 (by decide) (fun _ => kk N2 h.2) (fun q => absurd h.1 q)
theorem lw_c_endOfAll {x : xX} {g : xG} {b L k K : Nat} {xs : Nat → Int32} {M : xM} {Q : State → Prop} (hC : x_cx x g room_1 code RL 4 wsL_law) (hX : x_scr x g b L xs) (hk : 4 * k + 4 ≤ L) (hL : L ≤ 2048) (hi : q_inv K M) (hK : K + 20 < 1000000) (kk : ∀ N, q_inv (K + 20) N → x_W x g 4 Q N 842 [(3, .int (nI (4 * k))), (2, .ref (x_a g 193)), (1, .ref (x_a g 180)), (0, .ref b)] []) : x_W x g 4 Q M 602 [(3, .int (nI (4 * k))), (2, .ref (x_a g 193)), (1, .ref (x_a g 180)), (0, .ref b)] [] := by
  have h := st_endOfAll (g := g)  hi
  refine x_aload_n (i := 1) (q := 2) hC dL_law_602 rfl rfl ?_
  refine x_callVi (q := (RX9, TX9, 7)) (As := []) hC xo_180 rfl h gL_law_X9_endOfAll rfl rfl rfl hy_X9_endOfAll ⟨Nat.le_of_ble_eq_true rfl, Nat.le_of_ble_eq_true rfl⟩ rfl (Nat.le_of_ble_eq_true rfl) rfl dL_law_603 (fun r1 N1 h => ?_)
  refine x_aload_n (i := 2) (q := 1) hC dL_law_606 rfl rfl ?_
  refine x_callVi (q := (RX10, TX10, 12)) (As := []) hC xo_193 rfl h gL_law_X10_endOfAll rfl rfl rfl hy_X10_endOfAll ⟨Nat.le_of_ble_eq_true rfl, Nat.le_of_ble_eq_true rfl⟩ rfl (Nat.le_of_ble_eq_true rfl) rfl dL_law_607 (fun r2 N2 h => ?_)
  exact x_icmp_eq (t := 842) hC dL_law_610 (by decide) (fun _ => kk N2 h.2) (fun q => absurd h.1 q)
theorem lw_c_ifLeft {x : xX} {g : xG} {b L k K : Nat} {xs : Nat → Int32} {M : xM} {Q : State → Prop} (hC : x_cx x g room_1 code RL 4 wsL_law) (hX : x_scr x g b L xs) (hk : 4 * k + 4 ≤ L) (hL : L ≤ 2048) (hi : q_inv K M) (hK : K + 20 < 1000000) (kk : ∀ N, q_inv (K + 20) N → x_W x g 4 Q N 842 [(3, .int (nI (4 * k))), (2, .ref (x_a g 193)), (1, .ref (x_a g 180)), (0, .ref b)] []) : x_W x g 4 Q M 615 [(3, .int (nI (4 * k))), (2, .ref (x_a g 193)), (1, .ref (x_a g 180)), (0, .ref b)] [] := by
  have h := st_ifLeft (g := g) (xs (4 * k + 1)) hi
  refine x_aload_n (i := 1) (q := 2) hC dL_law_615 rfl rfl ?_
  refine x_arg (k := 4 * k) (j := 1) hC hX rfl rfl (by decide) (by omega) hL dL_law_616 dL_law_617 dL_law_618 dL_law_619 dL_law_620 ?_
  refine x_callVi (q := (RX9, TX9, 7)) (As := [.int (xs (4 * k + 1))]) hC xo_180 rfl h gL_law_X9_ifLeft rfl rfl rfl hy_X9_ifLeft ⟨Nat.le_of_ble_eq_true rfl, Nat.le_of_ble_eq_true rfl⟩ rfl (Nat.le_of_ble_eq_true rfl) rfl dL_law_621 (fun r1 N1 h => ?_)
  refine x_aload_n (i := 2) (q := 1) hC dL_law_624 rfl rfl ?_
  refine x_arg (k := 4 * k) (j := 1) hC hX rfl rfl (by decide) (by omega) hL dL_law_625 dL_law_626 dL_law_627 dL_law_628 dL_law_629 ?_
  refine x_callVi (q := (RX10, TX10, 12)) (As := [.int (xs (4 * k + 1))]) hC xo_193 rfl h gL_law_X10_ifLeft rfl rfl rfl hy_X10_ifLeft ⟨Nat.le_of_ble_eq_true rfl, Nat.le_of_ble_eq_true rfl⟩ rfl (Nat.le_of_ble_eq_true rfl) rfl dL_law_630 (fun r2 N2 h => ?_)
  exact x_icmp_eq (t := 842) hC dL_law_633 (by decide) (fun _ => kk N2 h.2) (fun q => absurd h.1 q)
theorem lw_c_heldUpBy {x : xX} {g : xG} {b L k K : Nat} {xs : Nat → Int32} {M : xM} {Q : State → Prop} (hC : x_cx x g room_1 code RL 4 wsL_law) (hX : x_scr x g b L xs) (hk : 4 * k + 4 ≤ L) (hL : L ≤ 2048) (hi : q_inv K M) (hK : K + 20 < 1000000) (kk : ∀ N, q_inv (K + 20) N → x_W x g 4 Q N 842 [(3, .int (nI (4 * k))), (2, .ref (x_a g 193)), (1, .ref (x_a g 180)), (0, .ref b)] []) : x_W x g 4 Q M 638 [(3, .int (nI (4 * k))), (2, .ref (x_a g 193)), (1, .ref (x_a g 180)), (0, .ref b)] [] := by
  have h := st_heldUpBy (g := g) (xs (4 * k + 1)) (xs (4 * k + 2)) hi hK
  refine x_aload_n (i := 1) (q := 2) hC dL_law_638 rfl rfl ?_
  refine x_arg (k := 4 * k) (j := 1) hC hX rfl rfl (by decide) (by omega) hL dL_law_639 dL_law_640 dL_law_641 dL_law_642 dL_law_643 ?_
  refine x_arg (k := 4 * k) (j := 2) hC hX rfl rfl (by decide) (by omega) hL dL_law_644 dL_law_645 dL_law_646 dL_law_647 dL_law_648 ?_
  refine x_callVi (q := (RX9, TX9, 7)) (As := [.int (xs (4 * k + 1)), .int (xs (4 * k + 2))]) hC xo_180 rfl h gL_law_X9_heldUpBy rfl rfl rfl hy_X9_heldUpBy ⟨Nat.le_of_ble_eq_true rfl, Nat.le_of_ble_eq_true rfl⟩ rfl (Nat.le_of_ble_eq_true rfl) rfl dL_law_649 (fun r1 N1 h => ?_)
  refine x_aload_n (i := 2) (q := 1) hC dL_law_652 rfl rfl ?_
  refine x_arg (k := 4 * k) (j := 1) hC hX rfl rfl (by decide) (by omega) hL dL_law_653 dL_law_654 dL_law_655 dL_law_656 dL_law_657 ?_
  refine x_arg (k := 4 * k) (j := 2) hC hX rfl rfl (by decide) (by omega) hL dL_law_658 dL_law_659 dL_law_660 dL_law_661 dL_law_662 ?_
  refine x_callVi (q := (RX10, TX10, 12)) (As := [.int (xs (4 * k + 1)), .int (xs (4 * k + 2))]) hC xo_193 rfl h gL_law_X10_heldUpBy rfl rfl rfl hy_X10_heldUpBy ⟨Nat.le_of_ble_eq_true rfl, Nat.le_of_ble_eq_true rfl⟩ rfl (Nat.le_of_ble_eq_true rfl) rfl dL_law_663 (fun r2 N2 h => ?_)
  exact x_icmp_eq (t := 842) hC dL_law_666 (by decide) (fun _ => kk N2 h.2) (fun q => absurd h.1 q)
theorem lw_c_together {x : xX} {g : xG} {b L k K : Nat} {xs : Nat → Int32} {M : xM} {Q : State → Prop} (hC : x_cx x g room_1 code RL 4 wsL_law) (hX : x_scr x g b L xs) (hk : 4 * k + 4 ≤ L) (hL : L ≤ 2048) (hi : q_inv K M) (hK : K + 20 < 1000000) (kk : ∀ N, q_inv (K + 20) N → x_W x g 4 Q N 842 [(3, .int (nI (4 * k))), (2, .ref (x_a g 193)), (1, .ref (x_a g 180)), (0, .ref b)] []) : x_W x g 4 Q M 671 [(3, .int (nI (4 * k))), (2, .ref (x_a g 193)), (1, .ref (x_a g 180)), (0, .ref b)] [] := by
  have h := st_together (g := g) (xs (4 * k + 1)) (xs (4 * k + 2)) hi
  refine x_aload_n (i := 1) (q := 2) hC dL_law_671 rfl rfl ?_
  refine x_arg (k := 4 * k) (j := 1) hC hX rfl rfl (by decide) (by omega) hL dL_law_672 dL_law_673 dL_law_674 dL_law_675 dL_law_676 ?_
  refine x_arg (k := 4 * k) (j := 2) hC hX rfl rfl (by decide) (by omega) hL dL_law_677 dL_law_678 dL_law_679 dL_law_680 dL_law_681 ?_
  refine x_callVi (q := (RX9, TX9, 7)) (As := [.int (xs (4 * k + 1)), .int (xs (4 * k + 2))]) hC xo_180 rfl h gL_law_X9_together rfl rfl rfl hy_X9_together ⟨Nat.le_of_ble_eq_true rfl, Nat.le_of_ble_eq_true rfl⟩ rfl (Nat.le_of_ble_eq_true rfl) rfl dL_law_682 (fun r1 N1 h => ?_)
  refine x_aload_n (i := 2) (q := 1) hC dL_law_685 rfl rfl ?_
  refine x_arg (k := 4 * k) (j := 1) hC hX rfl rfl (by decide) (by omega) hL dL_law_686 dL_law_687 dL_law_688 dL_law_689 dL_law_690 ?_
  refine x_arg (k := 4 * k) (j := 2) hC hX rfl rfl (by decide) (by omega) hL dL_law_691 dL_law_692 dL_law_693 dL_law_694 dL_law_695 ?_
  refine x_callVi (q := (RX10, TX10, 12)) (As := [.int (xs (4 * k + 1)), .int (xs (4 * k + 2))]) hC xo_193 rfl h gL_law_X10_together rfl rfl rfl hy_X10_together ⟨Nat.le_of_ble_eq_true rfl, Nat.le_of_ble_eq_true rfl⟩ rfl (Nat.le_of_ble_eq_true rfl) rfl dL_law_696 (fun r2 N2 h => ?_)
  exact x_icmp_eq (t := 842) hC dL_law_699 (by decide) (fun _ => kk N2 h.2) (fun q => absurd h.1 q)
theorem lw_w90 : Cond.constantLong RL 90 4294967295 ∈ wsL_law := List.mem_of_getElem? (i := 6) (by decide +kernel)
theorem lw_c_put {x : xX} {g : xG} {b L k K : Nat} {xs : Nat → Int32} {M : xM} {Q : State → Prop} (hC : x_cx x g room_1 code RL 4 wsL_law) (hX : x_scr x g b L xs) (hk : 4 * k + 4 ≤ L) (hL : L ≤ 2048) (hi : q_inv K M) (hK : K + 20 < 1000000) (kk : ∀ N, q_inv (K + 20) N → x_W x g 4 Q N 842 [(3, .int (nI (4 * k))), (2, .ref (x_a g 193)), (1, .ref (x_a g 180)), (0, .ref b)] []) : x_W x g 4 Q M 704 [(3, .int (nI (4 * k))), (2, .ref (x_a g 193)), (1, .ref (x_a g 180)), (0, .ref b)] [] := by
  have hp : ∀ V : Int64, mi_X9_put g V M (fun r N => mi_X10_put g V N (fun r' N' => r = r' ∧ q_inv (K + 20) N')) := fun V => by
    obtain ⟨u, hu, rfl⟩ := lN_of V
    exact st_put u hu hi
  refine x_aload_n (i := 1) (q := 2) hC dL_law_704 rfl rfl ?_
  refine x_arg (k := 4 * k) (j := 1) hC hX rfl rfl (by decide) (by omega) hL dL_law_705 dL_law_706 dL_law_707 dL_law_708 dL_law_709 ?_
  refine x_i2l hC dL_law_710 ?_
  refine x_bipush (v := 32) hC dL_law_711 (by decide) ?_
  refine x_lshl hC dL_law_713 ?_
  refine x_arg (k := 4 * k) (j := 2) hC hX rfl rfl (by decide) (by omega) hL dL_law_714 dL_law_715 dL_law_716 dL_law_717 dL_law_718 ?_
  refine x_i2l hC dL_law_719 ?_
  refine x_ldc2 hC lw_w90 dL_law_720 ?_
  refine x_land hC dL_law_723 ?_
  refine x_lor hC dL_law_724 ?_
  have h := hp (((xs (4 * k + 1)).toInt64 <<< ((32 : Int32).toInt64 &&& 63)) ||| ((xs (4 * k + 2)).toInt64 &&& 4294967295))
  refine x_callVi (q := (RX9, TX9, 7)) (As := [.long (((xs (4 * k + 1)).toInt64 <<< ((32 : Int32).toInt64 &&& 63)) ||| ((xs (4 * k + 2)).toInt64 &&& 4294967295))]) hC xo_180 rfl h gL_law_X9_put rfl rfl rfl hy_X9_put ⟨Nat.le_of_ble_eq_true rfl, Nat.le_of_ble_eq_true rfl⟩ rfl (Nat.le_of_ble_eq_true rfl) rfl dL_law_725 (fun r1 N1 h => ?_)
  refine x_aload_n (i := 2) (q := 1) hC dL_law_728 rfl rfl ?_
  refine x_arg (k := 4 * k) (j := 1) hC hX rfl rfl (by decide) (by omega) hL dL_law_729 dL_law_730 dL_law_731 dL_law_732 dL_law_733 ?_
  refine x_i2l hC dL_law_734 ?_
  refine x_bipush (v := 32) hC dL_law_735 (by decide) ?_
  refine x_lshl hC dL_law_737 ?_
  refine x_arg (k := 4 * k) (j := 2) hC hX rfl rfl (by decide) (by omega) hL dL_law_738 dL_law_739 dL_law_740 dL_law_741 dL_law_742 ?_
  refine x_i2l hC dL_law_743 ?_
  refine x_ldc2 hC lw_w90 dL_law_744 ?_
  refine x_land hC dL_law_747 ?_
  refine x_lor hC dL_law_748 ?_
  refine x_callVi (q := (RX10, TX10, 12)) (As := [.long (((xs (4 * k + 1)).toInt64 <<< ((32 : Int32).toInt64 &&& 63)) ||| ((xs (4 * k + 2)).toInt64 &&& 4294967295))]) hC xo_193 rfl h gL_law_X10_put rfl rfl rfl hy_X10_put ⟨Nat.le_of_ble_eq_true rfl, Nat.le_of_ble_eq_true rfl⟩ rfl (Nat.le_of_ble_eq_true rfl) rfl dL_law_749 (fun r2 N2 h => ?_)
  exact x_icmp_eq (t := 842) hC dL_law_752 (by decide) (fun _ => kk N2 h.2) (fun q => absurd h.1 q)
theorem lw_c_wipe {x : xX} {g : xG} {b L k K : Nat} {xs : Nat → Int32} {M : xM} {Q : State → Prop} (hC : x_cx x g room_1 code RL 4 wsL_law) (hX : x_scr x g b L xs) (hk : 4 * k + 4 ≤ L) (hL : L ≤ 2048) (hi : q_inv K M) (hK : K + 20 < 1000000) (kk : ∀ N, q_inv (K + 20) N → x_W x g 4 Q N 842 [(3, .int (nI (4 * k))), (2, .ref (x_a g 193)), (1, .ref (x_a g 180)), (0, .ref b)] []) : x_W x g 4 Q M 757 [(3, .int (nI (4 * k))), (2, .ref (x_a g 193)), (1, .ref (x_a g 180)), (0, .ref b)] [] := by
  have h := st_wipe (g := g)  hi
  refine x_aload_n (i := 1) (q := 2) hC dL_law_757 rfl rfl ?_
  refine x_callVi (q := (RX9, TX9, 7)) (As := []) hC xo_180 rfl h gL_law_X9_wipe rfl rfl rfl hy_X9_wipe ⟨Nat.le_of_ble_eq_true rfl, Nat.le_of_ble_eq_true rfl⟩ rfl (Nat.le_of_ble_eq_true rfl) rfl dL_law_758 (fun r1 N1 h => ?_)
  refine x_aload_n (i := 2) (q := 1) hC dL_law_761 rfl rfl ?_
  refine x_callVi (q := (RX10, TX10, 12)) (As := []) hC xo_193 rfl h gL_law_X10_wipe rfl rfl rfl hy_X10_wipe ⟨Nat.le_of_ble_eq_true rfl, Nat.le_of_ble_eq_true rfl⟩ rfl (Nat.le_of_ble_eq_true rfl) rfl dL_law_762 (fun r2 N2 h => ?_)
  exact x_icmp_eq (t := 842) hC dL_law_765 (by decide) (fun _ => kk N2 h.2) (fun q => absurd h.1 q)
theorem lw_c_fault {x : xX} {g : xG} {b L k K : Nat} {xs : Nat → Int32} {M : xM} {Q : State → Prop} (hC : x_cx x g room_1 code RL 4 wsL_law) (hX : x_scr x g b L xs) (hk : 4 * k + 4 ≤ L) (hL : L ≤ 2048) (hi : q_inv K M) (hK : K + 20 < 1000000) (kk : ∀ N, q_inv (K + 20) N → x_W x g 4 Q N 842 [(3, .int (nI (4 * k))), (2, .ref (x_a g 193)), (1, .ref (x_a g 180)), (0, .ref b)] []) : x_W x g 4 Q M 770 [(3, .int (nI (4 * k))), (2, .ref (x_a g 193)), (1, .ref (x_a g 180)), (0, .ref b)] [] := by
  have h := st_fault (g := g)  hi
  refine x_aload_n (i := 1) (q := 2) hC dL_law_770 rfl rfl ?_
  refine x_callVi (q := (RX9, TX9, 7)) (As := []) hC xo_180 rfl h gL_law_X9_fault rfl rfl rfl hy_X9_fault ⟨Nat.le_of_ble_eq_true rfl, Nat.le_of_ble_eq_true rfl⟩ rfl (Nat.le_of_ble_eq_true rfl) rfl dL_law_771 (fun r1 N1 h => ?_)
  refine x_aload_n (i := 2) (q := 1) hC dL_law_774 rfl rfl ?_
  refine x_callVi (q := (RX10, TX10, 12)) (As := []) hC xo_193 rfl h gL_law_X10_fault rfl rfl rfl hy_X10_fault ⟨Nat.le_of_ble_eq_true rfl, Nat.le_of_ble_eq_true rfl⟩ rfl (Nat.le_of_ble_eq_true rfl) rfl dL_law_775 (fun r2 N2 h => ?_)
  exact x_icmp_eq (t := 842) hC dL_law_778 (by decide) (fun _ => kk N2 h.2) (fun q => absurd h.1 q)
theorem lw_c_undo {x : xX} {g : xG} {b L k K : Nat} {xs : Nat → Int32} {M : xM} {Q : State → Prop} (hC : x_cx x g room_1 code RL 4 wsL_law) (hX : x_scr x g b L xs) (hk : 4 * k + 4 ≤ L) (hL : L ≤ 2048) (hi : q_inv K M) (hK : K + 20 < 1000000) (kk : ∀ N, q_inv (K + 20) N → x_W x g 4 Q N 842 [(3, .int (nI (4 * k))), (2, .ref (x_a g 193)), (1, .ref (x_a g 180)), (0, .ref b)] []) : x_W x g 4 Q M 783 [(3, .int (nI (4 * k))), (2, .ref (x_a g 193)), (1, .ref (x_a g 180)), (0, .ref b)] [] := by
  have h := st_undo (g := g)  hi
  refine x_aload_n (i := 1) (q := 2) hC dL_law_783 rfl rfl ?_
  refine x_callVi (q := (RX9, TX9, 7)) (As := []) hC xo_180 rfl h gL_law_X9_undo rfl rfl rfl hy_X9_undo ⟨Nat.le_of_ble_eq_true rfl, Nat.le_of_ble_eq_true rfl⟩ rfl (Nat.le_of_ble_eq_true rfl) rfl dL_law_784 (fun r1 N1 h => ?_)
  refine x_aload_n (i := 2) (q := 1) hC dL_law_787 rfl rfl ?_
  refine x_callVi (q := (RX10, TX10, 12)) (As := []) hC xo_193 rfl h gL_law_X10_undo rfl rfl rfl hy_X10_undo ⟨Nat.le_of_ble_eq_true rfl, Nat.le_of_ble_eq_true rfl⟩ rfl (Nat.le_of_ble_eq_true rfl) rfl dL_law_788 (fun r2 N2 h => ?_)
  exact x_icmp_eq (t := 842) hC dL_law_791 (by decide) (fun _ => kk N2 h.2) (fun q => absurd h.1 q)
theorem lw_c_save {x : xX} {g : xG} {b L k K : Nat} {xs : Nat → Int32} {M : xM} {Q : State → Prop} (hC : x_cx x g room_1 code RL 4 wsL_law) (hX : x_scr x g b L xs) (hk : 4 * k + 4 ≤ L) (hL : L ≤ 2048) (hi : q_inv K M) (hK : K + 20 < 1000000) (kk : ∀ N, q_inv (K + 20) N → x_W x g 4 Q N 842 [(3, .int (nI (4 * k))), (2, .ref (x_a g 193)), (1, .ref (x_a g 180)), (0, .ref b)] []) : x_W x g 4 Q M 796 [(3, .int (nI (4 * k))), (2, .ref (x_a g 193)), (1, .ref (x_a g 180)), (0, .ref b)] [] := by
  have h := st_save (g := g) (xs (4 * k + 1)) hi
  refine x_aload_n (i := 1) (q := 2) hC dL_law_796 rfl rfl ?_
  refine x_arg (k := 4 * k) (j := 1) hC hX rfl rfl (by decide) (by omega) hL dL_law_797 dL_law_798 dL_law_799 dL_law_800 dL_law_801 ?_
  refine x_callVi (q := (RX9, TX9, 7)) (As := [.int (xs (4 * k + 1))]) hC xo_180 rfl h gL_law_X9_save rfl rfl rfl hy_X9_save ⟨Nat.le_of_ble_eq_true rfl, Nat.le_of_ble_eq_true rfl⟩ rfl (Nat.le_of_ble_eq_true rfl) rfl dL_law_802 (fun r1 N1 h => ?_)
  refine x_aload_n (i := 2) (q := 1) hC dL_law_805 rfl rfl ?_
  refine x_arg (k := 4 * k) (j := 1) hC hX rfl rfl (by decide) (by omega) hL dL_law_806 dL_law_807 dL_law_808 dL_law_809 dL_law_810 ?_
  refine x_callVi (q := (RX10, TX10, 12)) (As := [.int (xs (4 * k + 1))]) hC xo_193 rfl h gL_law_X10_save rfl rfl rfl hy_X10_save ⟨Nat.le_of_ble_eq_true rfl, Nat.le_of_ble_eq_true rfl⟩ rfl (Nat.le_of_ble_eq_true rfl) rfl dL_law_811 (fun r2 N2 h => ?_)
  exact x_icmp_eq (t := 842) hC dL_law_814 (by decide) (fun _ => kk N2 h.2) (fun q => absurd h.1 q)
theorem lw_c_restore {x : xX} {g : xG} {b L k K : Nat} {xs : Nat → Int32} {M : xM} {Q : State → Prop} (hC : x_cx x g room_1 code RL 4 wsL_law) (hX : x_scr x g b L xs) (hk : 4 * k + 4 ≤ L) (hL : L ≤ 2048) (hi : q_inv K M) (hK : K + 20 < 1000000) (kk : ∀ N, q_inv (K + 20) N → x_W x g 4 Q N 842 [(3, .int (nI (4 * k))), (2, .ref (x_a g 193)), (1, .ref (x_a g 180)), (0, .ref b)] []) : x_W x g 4 Q M 819 [(3, .int (nI (4 * k))), (2, .ref (x_a g 193)), (1, .ref (x_a g 180)), (0, .ref b)] [] := by
  have h := st_restore (g := g) (xs (4 * k + 1)) hi
  refine x_aload_n (i := 1) (q := 2) hC dL_law_819 rfl rfl ?_
  refine x_arg (k := 4 * k) (j := 1) hC hX rfl rfl (by decide) (by omega) hL dL_law_820 dL_law_821 dL_law_822 dL_law_823 dL_law_824 ?_
  refine x_callVi (q := (RX9, TX9, 7)) (As := [.int (xs (4 * k + 1))]) hC xo_180 rfl h gL_law_X9_restore rfl rfl rfl hy_X9_restore ⟨Nat.le_of_ble_eq_true rfl, Nat.le_of_ble_eq_true rfl⟩ rfl (Nat.le_of_ble_eq_true rfl) rfl dL_law_825 (fun r1 N1 h => ?_)
  refine x_aload_n (i := 2) (q := 1) hC dL_law_828 rfl rfl ?_
  refine x_arg (k := 4 * k) (j := 1) hC hX rfl rfl (by decide) (by omega) hL dL_law_829 dL_law_830 dL_law_831 dL_law_832 dL_law_833 ?_
  refine x_callVi (q := (RX10, TX10, 12)) (As := [.int (xs (4 * k + 1))]) hC xo_193 rfl h gL_law_X10_restore rfl rfl rfl hy_X10_restore ⟨Nat.le_of_ble_eq_true rfl, Nat.le_of_ble_eq_true rfl⟩ rfl (Nat.le_of_ble_eq_true rfl) rfl dL_law_834 (fun r2 N2 h => ?_)
  exact x_icmp_eq (t := 842) hC dL_law_837 (by decide) (fun _ => kk N2 h.2) (fun q => absurd h.1 q)
theorem lw_loop {x : xX} {g : xG} {b L : Nat} {xs : Nat → Int32} (hC : x_cx x g room_1 code RL 4 wsL_law) (hX : x_scr x g b L xs) (hW : x_lw x g b) (hL : L ≤ 2048) : ∀ (n k : Nat) (M : xM), L < 4 * k + n → 4 * k ≤ L → q_inv (20 * k) M → x_W x g 4 (x_lQ x b) M 18 [(3, .int (nI (4 * k))), (2, .ref (x_a g 193)), (1, .ref (x_a g 180)), (0, .ref b)] [] := by
  intro n
  induction n with
  | zero => exact fun k M h1 h2 => absurd h1 (by omega)
  | succ n ih =>
    intro k M h1 h2 hi
    refine x_iload_n (i := 3) (q := 0) hC dL_law_18 rfl rfl ?_
    refine x_aload_n (i := 0) (q := 3) hC dL_law_19 rfl rfl ?_
    refine x_slen hC hX dL_law_20 ?_
    refine x_iconst (v := 4) hC dL_law_21 (by decide) ?_
    refine x_isub hC dL_law_22 ?_
    refine x_icmp_gt (t := 848) hC dL_law_23 (by decide) (fun _ => ?_) (fun q => ?_)
    · refine x_iconst (v := 1) hC dL_law_848 (by decide) ?_
      exact x_lret hC hW dL_law_849
    · have hk : 4 * k + 4 ≤ L := x_m4 hL (by omega) q
      have hK : 20 * k + 20 < 1000000 := by omega
      have kk : ∀ N, q_inv (20 * k + 20) N → x_W x g 4 (x_lQ x b) N 842 [(3, .int (nI (4 * k))), (2, .ref (x_a g 193)), (1, .ref (x_a g 180)), (0, .ref b)] [] := by
        intro N hN
        refine x_iinc (k := 0) (v' := nI (4 * (k + 1))) (ls' := [(3, .int (nI (4 * (k + 1)))), (2, .ref (x_a g 193)), (1, .ref (x_a g 180)), (0, .ref b)]) hC dL_law_842 rfl ?_ (by decide) rfl ?_
        · show nI (4 * k) + nI 4 = _
          rw [nI_add]
          congr 1
        · refine x_goto (t := 18) hC dL_law_845 (by decide) ?_
          exact ih (k + 1) N (by omega) (by omega) (by rw [show 20 * (k + 1) = 20 * k + 20 by omega]; exact hN)
      refine x_aload_n (i := 0) (q := 3) hC dL_law_26 rfl rfl ?_
      refine x_iload_n (i := 3) (q := 0) hC dL_law_27 rfl rfl ?_
      refine x_sld hC hX (x_vi (n := 4 * k) (by omega) (by omega)) dL_law_28 ?_
      refine x_bipush (v := 31) hC dL_law_29 (by decide) ?_
      refine x_iand hC dL_law_31 ?_
      refine x_topi (fun v _ => ?_)
      rcases Classical.em (v.toInt < 0 ∨ 23 < v.toInt) with q | q
      · exact x_tsOut (t := 842) hC dL_law_32 q (by decide) (kk M (q_inv_mono hi (by omega)))
      · have q2 : v.toInt = 0 ∨ v.toInt = 1 ∨ v.toInt = 2 ∨ v.toInt = 3 ∨ v.toInt = 4 ∨ v.toInt = 5 ∨ v.toInt = 6 ∨ v.toInt = 7 ∨ v.toInt = 8 ∨ v.toInt = 9 ∨ v.toInt = 10 ∨ v.toInt = 11 ∨ v.toInt = 12 ∨ v.toInt = 13 ∨ v.toInt = 14 ∨ v.toInt = 15 ∨ v.toInt = 16 ∨ v.toInt = 17 ∨ v.toInt = 18 ∨ v.toInt = 19 ∨ v.toInt = 20 ∨ v.toInt = 21 ∨ v.toInt = 22 ∨ v.toInt = 23 := by omega
        rcases q2 with q2 | q2 | q2 | q2 | q2 | q2 | q2 | q2 | q2 | q2 | q2 | q2 | q2 | q2 | q2 | q2 | q2 | q2 | q2 | q2 | q2 | q2 | q2 | q2
        · replace q2 : v = (0 : Int32) := x_ofInt q2
          refine x_tsIn (o := 112) (t := 144) hC dL_law_32 (by rw [q2]; decide) (by rw [q2]; decide) (by rw [q2]; rfl) (by decide) ?_
          exact lw_c_singer hC hX hk hL hi hK kk
        · replace q2 : v = (1 : Int32) := x_ofInt q2
          refine x_tsIn (o := 145) (t := 177) hC dL_law_32 (by rw [q2]; decide) (by rw [q2]; decide) (by rw [q2]; rfl) (by decide) ?_
          exact lw_c_song hC hX hk hL hi hK kk
        · replace q2 : v = (2 : Int32) := x_ofInt q2
          refine x_tsIn (o := 188) (t := 220) hC dL_law_32 (by rw [q2]; decide) (by rw [q2]; decide) (by rw [q2]; rfl) (by decide) ?_
          exact lw_c_leave hC hX hk hL hi hK kk
        · replace q2 : v = (3 : Int32) := x_ofInt q2
          refine x_tsIn (o := 237) (t := 269) hC dL_law_32 (by rw [q2]; decide) (by rw [q2]; decide) (by rw [q2]; rfl) (by decide) ?_
          exact lw_c_wish hC hX hk hL hi hK kk
        · replace q2 : v = (4 : Int32) := x_ofInt q2
          refine x_tsIn (o := 280) (t := 312) hC dL_law_32 (by rw [q2]; decide) (by rw [q2]; decide) (by rw [q2]; rfl) (by decide) ?_
          exact lw_c_takeBack hC hX hk hL hi hK kk
        · replace q2 : v = (5 : Int32) := x_ofInt q2
          refine x_tsIn (o := 303) (t := 335) hC dL_law_32 (by rw [q2]; decide) (by rw [q2]; decide) (by rw [q2]; rfl) (by decide) ?_
          exact lw_c_sing hC hX hk hL hi hK kk
        · replace q2 : v = (6 : Int32) := x_ofInt q2
          refine x_tsIn (o := 326) (t := 358) hC dL_law_32 (by rw [q2]; decide) (by rw [q2]; decide) (by rw [q2]; rfl) (by decide) ?_
          exact lw_c_read hC hX hk hL hi hK kk
        · replace q2 : v = (7 : Int32) := x_ofInt q2
          refine x_tsIn (o := 339) (t := 371) hC dL_law_32 (by rw [q2]; decide) (by rw [q2]; decide) (by rw [q2]; rfl) (by decide) ?_
          exact lw_c_of hC hX hk hL hi hK kk
        · replace q2 : v = (8 : Int32) := x_ofInt q2
          refine x_tsIn (o := 372) (t := 404) hC dL_law_32 (by rw [q2]; decide) (by rw [q2]; decide) (by rw [q2]; rfl) (by decide) ?_
          exact lw_c_inQueue hC hX hk hL hi hK kk
        · replace q2 : v = (9 : Int32) := x_ofInt q2
          refine x_tsIn (o := 405) (t := 437) hC dL_law_32 (by rw [q2]; decide) (by rw [q2]; decide) (by rw [q2]; rfl) (by decide) ?_
          exact lw_c_key hC hX hk hL hi hK kk
        · replace q2 : v = (10 : Int32) := x_ofInt q2
          refine x_tsIn (o := 448) (t := 480) hC dL_law_32 (by rw [q2]; decide) (by rw [q2]; decide) (by rw [q2]; rfl) (by decide) ?_
          exact lw_c_ofSong hC hX hk hL hi hK kk
        · replace q2 : v = (11 : Int32) := x_ofInt q2
          refine x_tsIn (o := 481) (t := 513) hC dL_law_32 (by rw [q2]; decide) (by rw [q2]; decide) (by rw [q2]; rfl) (by decide) ?_
          exact lw_c_past hC hX hk hL hi hK kk
        · replace q2 : v = (12 : Int32) := x_ofInt q2
          refine x_tsIn (o := 514) (t := 546) hC dL_law_32 (by rw [q2]; decide) (by rw [q2]; decide) (by rw [q2]; rfl) (by decide) ?_
          exact lw_c_count hC hX hk hL hi hK kk
        · replace q2 : v = (13 : Int32) := x_ofInt q2
          refine x_tsIn (o := 537) (t := 569) hC dL_law_32 (by rw [q2]; decide) (by rw [q2]; decide) (by rw [q2]; rfl) (by decide) ?_
          exact lw_c_turnOf hC hX hk hL hi hK kk
        · replace q2 : v = (14 : Int32) := x_ofInt q2
          refine x_tsIn (o := 570) (t := 602) hC dL_law_32 (by rw [q2]; decide) (by rw [q2]; decide) (by rw [q2]; rfl) (by decide) ?_
          exact lw_c_endOfAll hC hX hk hL hi hK kk
        · replace q2 : v = (15 : Int32) := x_ofInt q2
          refine x_tsIn (o := 583) (t := 615) hC dL_law_32 (by rw [q2]; decide) (by rw [q2]; decide) (by rw [q2]; rfl) (by decide) ?_
          exact lw_c_ifLeft hC hX hk hL hi hK kk
        · replace q2 : v = (16 : Int32) := x_ofInt q2
          refine x_tsIn (o := 606) (t := 638) hC dL_law_32 (by rw [q2]; decide) (by rw [q2]; decide) (by rw [q2]; rfl) (by decide) ?_
          exact lw_c_heldUpBy hC hX hk hL hi hK kk
        · replace q2 : v = (17 : Int32) := x_ofInt q2
          refine x_tsIn (o := 639) (t := 671) hC dL_law_32 (by rw [q2]; decide) (by rw [q2]; decide) (by rw [q2]; rfl) (by decide) ?_
          exact lw_c_together hC hX hk hL hi hK kk
        · replace q2 : v = (18 : Int32) := x_ofInt q2
          refine x_tsIn (o := 672) (t := 704) hC dL_law_32 (by rw [q2]; decide) (by rw [q2]; decide) (by rw [q2]; rfl) (by decide) ?_
          exact lw_c_put hC hX hk hL hi hK kk
        · replace q2 : v = (19 : Int32) := x_ofInt q2
          refine x_tsIn (o := 725) (t := 757) hC dL_law_32 (by rw [q2]; decide) (by rw [q2]; decide) (by rw [q2]; rfl) (by decide) ?_
          exact lw_c_wipe hC hX hk hL hi hK kk
        · replace q2 : v = (20 : Int32) := x_ofInt q2
          refine x_tsIn (o := 738) (t := 770) hC dL_law_32 (by rw [q2]; decide) (by rw [q2]; decide) (by rw [q2]; rfl) (by decide) ?_
          exact lw_c_fault hC hX hk hL hi hK kk
        · replace q2 : v = (21 : Int32) := x_ofInt q2
          refine x_tsIn (o := 751) (t := 783) hC dL_law_32 (by rw [q2]; decide) (by rw [q2]; decide) (by rw [q2]; rfl) (by decide) ?_
          exact lw_c_undo hC hX hk hL hi hK kk
        · replace q2 : v = (22 : Int32) := x_ofInt q2
          refine x_tsIn (o := 764) (t := 796) hC dL_law_32 (by rw [q2]; decide) (by rw [q2]; decide) (by rw [q2]; rfl) (by decide) ?_
          exact lw_c_save hC hX hk hL hi hK kk
        · replace q2 : v = (23 : Int32) := x_ofInt q2
          refine x_tsIn (o := 787) (t := 819) hC dL_law_32 (by rw [q2]; decide) (by rw [q2]; decide) (by rw [q2]; rfl) (by decide) ?_
          exact lw_c_restore hC hX hk hL hi hK kk
