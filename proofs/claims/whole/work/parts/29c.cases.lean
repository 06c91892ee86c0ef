/-! ===== the law: a call each ===== -/
set_option maxHeartbeats 4000000 in
set_option maxRecDepth 100000 in
theorem lc_right {E : En} {X : Ctx} {nm : String} {Z : State → Prop} {b L c g : Nat} {sc : Nat → Int32} {sh : List Sh} {I : IM} {J : JM} {R : RM} (C : Cx E X RL code 4 ret nm room_1) (hX : va_X b L sc (xs X) (xs X).heap) (hbl : b < (xs X).heap.size) (hbE : b < e_b E) (h : Rel sh I J R c) (hg : GF R g) (hcL : 8 * c + 8 ≤ L) (hL : L ≤ 4096) (next : NX E X Z b c) : V E X Z (90 + 2 * g + c) (1457153 + 9 * c + 49062 * g) sh I J R 148 [some (.retAddr b), some (.ref 0), some (.ref 47), some (.int (nI (8 * c)))] [] := by
  have hs := h.st
  have hg1 := hg.le
  refine v_aload_n C dL_law_148 rfl ?_
  refine v_aloadS C dL_law_149 rfl ?_
  refine v_iload_n C dL_law_150 rfl ?_
  refine v_iconst 1 C dL_law_151 (by decide) ?_
  refine v_iadd C dL_law_152 ?_
  refine v_sld (8 * c + 1) C hX hbl hbE (at_e (nI_add (8 * c) 1) (by omega) (by omega)) dL_law_153 ?_
  refine v_aloadS C dL_law_154 rfl ?_
  refine v_iload_n C dL_law_155 rfl ?_
  refine v_iconst 2 C dL_law_156 (by decide) ?_
  refine v_iadd C dL_law_157 ?_
  refine v_sld (8 * c + 2) C hX hbl hbE (at_e (nI_add (8 * c) 2) (by omega) (by omega)) dL_law_158 ?_
  refine v_callLi C (c_X10_right hs) mt_X10_right lk_RL_13 rfl rfl (hs.1 0 _ rfl) rfl rfl rfl rfl (rm_law rfl (by omega) (by omega)) dL_law_159 ?_
  refine v_aload_n C dL_law_162 rfl ?_
  refine v_aloadS C dL_law_163 rfl ?_
  refine v_iload_n C dL_law_164 rfl ?_
  refine v_iconst 1 C dL_law_165 (by decide) ?_
  refine v_iadd C dL_law_166 ?_
  refine v_sld (8 * c + 1) C hX hbl hbE (at_e (nI_add (8 * c) 1) (by omega) (by omega)) dL_law_167 ?_
  refine v_aloadS C dL_law_168 rfl ?_
  refine v_iload_n C dL_law_169 rfl ?_
  refine v_iconst 2 C dL_law_170 (by decide) ?_
  refine v_iadd C dL_law_171 ?_
  refine v_sld (8 * c + 2) C hX hbl hbE (at_e (nI_add (8 * c) 2) (by omega) (by omega)) dL_law_172 ?_
  refine v_callLi C (c_X11_right hs) mt_X11_right lk_RL_17 rfl rfl (hs.1 47 _ rfl) rfl rfl rfl rfl (rm_law rfl (by omega) (by omega)) dL_law_173 ?_
  refine v_icmp_eq 977 C dL_law_176 (by decide) (fun h176 => ?_) (fun h176 => False.elim (h176 (r_right h (sc (8 * c + 1)) (sc (8 * c + 2))).1.symm))
  refine v_iinc (nI (8 * (c + 1))) C dL_law_977 rfl (inc8 c) (Nat.le_of_ble_eq_true rfl) rfl ?_
  refine v_goto 18 C dL_law_980 (by decide) ?_
  exact v_widen (by omega) (by omega) (next _ _ _ _ g (r_right h (sc (8 * c + 1)) (sc (8 * c + 2))).2 hg)

set_option maxHeartbeats 4000000 in
set_option maxRecDepth 100000 in
theorem lc_cut {E : En} {X : Ctx} {nm : String} {Z : State → Prop} {b L c g : Nat} {sc : Nat → Int32} {sh : List Sh} {I : IM} {J : JM} {R : RM} (C : Cx E X RL code 4 ret nm room_1) (hX : va_X b L sc (xs X) (xs X).heap) (hbl : b < (xs X).heap.size) (hbE : b < e_b E) (h : Rel sh I J R c) (hg : GF R g) (hcL : 8 * c + 8 ≤ L) (hL : L ≤ 4096) (next : NX E X Z b c) : V E X Z (90 + 2 * g + c) (1457153 + 9 * c + 49062 * g) sh I J R 181 [some (.retAddr b), some (.ref 0), some (.ref 47), some (.int (nI (8 * c)))] [] := by
  have hs := h.st
  have hg1 := hg.le
  refine v_aload_n C dL_law_181 rfl ?_
  refine v_aloadS C dL_law_182 rfl ?_
  refine v_iload_n C dL_law_183 rfl ?_
  refine v_iconst 1 C dL_law_184 (by decide) ?_
  refine v_iadd C dL_law_185 ?_
  refine v_sld (8 * c + 1) C hX hbl hbE (at_e (nI_add (8 * c) 1) (by omega) (by omega)) dL_law_186 ?_
  refine v_callLi C (c_X10_cut hs (h.sc.2.1.at (n := 5) (by decide) (by decide)).1) mt_X10_cut lk_RL_18 rfl rfl (hs.1 0 _ rfl) rfl rfl rfl rfl (rm_law rfl (by omega) (by omega)) dL_law_187 ?_
  refine v_aload_n C dL_law_190 rfl ?_
  refine v_aloadS C dL_law_191 rfl ?_
  refine v_iload_n C dL_law_192 rfl ?_
  refine v_iconst 1 C dL_law_193 (by decide) ?_
  refine v_iadd C dL_law_194 ?_
  refine v_sld (8 * c + 1) C hX hbl hbE (at_e (nI_add (8 * c) 1) (by omega) (by omega)) dL_law_195 ?_
  refine v_callLi C (c_X11_cut hs (by rw [cutI_48]; exact (h.sc.2.1.at (n := 5) (by decide) (by decide)).2)) mt_X11_cut lk_RL_22 rfl rfl (hs.1 47 _ rfl) rfl rfl rfl rfl (rm_law rfl (by omega) (by omega)) dL_law_196 ?_
  refine v_icmp_eq 977 C dL_law_199 (by decide) (fun h199 => ?_) (fun h199 => False.elim (h199 (r_cut h (sc (8 * c + 1))).1.symm))
  refine v_iinc (nI (8 * (c + 1))) C dL_law_977 rfl (inc8 c) (Nat.le_of_ble_eq_true rfl) rfl ?_
  refine v_goto 18 C dL_law_980 (by decide) ?_
  exact v_widen (by omega) (by omega) (next _ _ _ _ g (r_cut h (sc (8 * c + 1))).2 hg)

set_option maxHeartbeats 4000000 in
set_option maxRecDepth 100000 in
theorem lc_rate {E : En} {X : Ctx} {nm : String} {Z : State → Prop} {b L c g : Nat} {sc : Nat → Int32} {sh : List Sh} {I : IM} {J : JM} {R : RM} (C : Cx E X RL code 4 ret nm room_1) (hX : va_X b L sc (xs X) (xs X).heap) (hbl : b < (xs X).heap.size) (hbE : b < e_b E) (h : Rel sh I J R c) (hg : GF R g) (hcL : 8 * c + 8 ≤ L) (hL : L ≤ 4096) (next : NX E X Z b c) : V E X Z (90 + 2 * g + c) (1457153 + 9 * c + 49062 * g) sh I J R 204 [some (.retAddr b), some (.ref 0), some (.ref 47), some (.int (nI (8 * c)))] [] := by
  have hs := h.st
  have hg1 := hg.le
  refine v_aload_n C dL_law_204 rfl ?_
  refine v_aloadS C dL_law_205 rfl ?_
  refine v_iload_n C dL_law_206 rfl ?_
  refine v_iconst 1 C dL_law_207 (by decide) ?_
  refine v_iadd C dL_law_208 ?_
  refine v_sld (8 * c + 1) C hX hbl hbE (at_e (nI_add (8 * c) 1) (by omega) (by omega)) dL_law_209 ?_
  refine v_callLi C (c_X10_rate hs) mt_X10_rate lk_RL_23 rfl rfl (hs.1 0 _ rfl) rfl rfl rfl rfl (rm_law rfl (by omega) (by omega)) dL_law_210 ?_
  refine v_aload_n C dL_law_213 rfl ?_
  refine v_aloadS C dL_law_214 rfl ?_
  refine v_iload_n C dL_law_215 rfl ?_
  refine v_iconst 1 C dL_law_216 (by decide) ?_
  refine v_iadd C dL_law_217 ?_
  refine v_sld (8 * c + 1) C hX hbl hbE (at_e (nI_add (8 * c) 1) (by omega) (by omega)) dL_law_218 ?_
  refine v_callLi C (c_X11_rate hs) mt_X11_rate lk_RL_26 rfl rfl (hs.1 47 _ rfl) rfl rfl rfl rfl (rm_law rfl (by omega) (by omega)) dL_law_219 ?_
  refine v_icmp_eq 977 C dL_law_222 (by decide) (fun h222 => ?_) (fun h222 => False.elim (h222 (r_rate h (sc (8 * c + 1))).1.symm))
  refine v_iinc (nI (8 * (c + 1))) C dL_law_977 rfl (inc8 c) (Nat.le_of_ble_eq_true rfl) rfl ?_
  refine v_goto 18 C dL_law_980 (by decide) ?_
  exact v_widen (by omega) (by omega) (next _ _ _ _ g (r_rate h (sc (8 * c + 1))).2 hg)

set_option maxHeartbeats 4000000 in
set_option maxRecDepth 100000 in
theorem lc_cold {E : En} {X : Ctx} {nm : String} {Z : State → Prop} {b L c g : Nat} {sc : Nat → Int32} {sh : List Sh} {I : IM} {J : JM} {R : RM} (C : Cx E X RL code 4 ret nm room_1) (hX : va_X b L sc (xs X) (xs X).heap) (hbl : b < (xs X).heap.size) (hbE : b < e_b E) (h : Rel sh I J R c) (hg : GF R g) (hcL : 8 * c + 8 ≤ L) (hL : L ≤ 4096) (next : NX E X Z b c) : V E X Z (90 + 2 * g + c) (1457153 + 9 * c + 49062 * g) sh I J R 227 [some (.retAddr b), some (.ref 0), some (.ref 47), some (.int (nI (8 * c)))] [] := by
  have hs := h.st
  have hg1 := hg.le
  refine v_aload_n C dL_law_227 rfl ?_
  refine v_aloadS C dL_law_228 rfl ?_
  refine v_iload_n C dL_law_229 rfl ?_
  refine v_iconst 1 C dL_law_230 (by decide) ?_
  refine v_iadd C dL_law_231 ?_
  refine v_sld (8 * c + 1) C hX hbl hbE (at_e (nI_add (8 * c) 1) (by omega) (by omega)) dL_law_232 ?_
  refine v_aloadS C dL_law_233 rfl ?_
  refine v_iload_n C dL_law_234 rfl ?_
  refine v_iconst 2 C dL_law_235 (by decide) ?_
  refine v_iadd C dL_law_236 ?_
  refine v_sld (8 * c + 2) C hX hbl hbE (at_e (nI_add (8 * c) 2) (by omega) (by omega)) dL_law_237 ?_
  refine v_aloadS C dL_law_238 rfl ?_
  refine v_iload_n C dL_law_239 rfl ?_
  refine v_iconst 3 C dL_law_240 (by decide) ?_
  refine v_iadd C dL_law_241 ?_
  refine v_sld (8 * c + 3) C hX hbl hbE (at_e (nI_add (8 * c) 3) (by omega) (by omega)) dL_law_242 ?_
  refine v_callLi C (c_X10_cold hs (cold_at h.sc.2.2.2.2.2.2.1)) mt_X10_cold lk_RL_27 rfl rfl (hs.1 0 _ rfl) rfl rfl rfl rfl (rm_law rfl (by omega) (by omega)) dL_law_243 ?_
  refine v_aload_n C dL_law_246 rfl ?_
  refine v_aloadS C dL_law_247 rfl ?_
  refine v_iload_n C dL_law_248 rfl ?_
  refine v_iconst 1 C dL_law_249 (by decide) ?_
  refine v_iadd C dL_law_250 ?_
  refine v_sld (8 * c + 1) C hX hbl hbE (at_e (nI_add (8 * c) 1) (by omega) (by omega)) dL_law_251 ?_
  refine v_aloadS C dL_law_252 rfl ?_
  refine v_iload_n C dL_law_253 rfl ?_
  refine v_iconst 2 C dL_law_254 (by decide) ?_
  refine v_iadd C dL_law_255 ?_
  refine v_sld (8 * c + 2) C hX hbl hbE (at_e (nI_add (8 * c) 2) (by omega) (by omega)) dL_law_256 ?_
  refine v_aloadS C dL_law_257 rfl ?_
  refine v_iload_n C dL_law_258 rfl ?_
  refine v_iconst 3 C dL_law_259 (by decide) ?_
  refine v_iadd C dL_law_260 ?_
  refine v_sld (8 * c + 3) C hX hbl hbE (at_e (nI_add (8 * c) 3) (by omega) (by omega)) dL_law_261 ?_
  refine v_callLi C (c_X11_cold hs (by rw [coldI_48]; exact cold_atm h.sc.2.2.2.2.2.2.1)) mt_X11_cold lk_RL_31 rfl rfl (hs.1 47 _ rfl) rfl rfl rfl rfl (rm_law rfl (by omega) (by omega)) dL_law_262 ?_
  refine v_icmp_eq 977 C dL_law_265 (by decide) (fun h265 => ?_) (fun h265 => False.elim (h265 (r_cold h (sc (8 * c + 1)) (sc (8 * c + 2)) (sc (8 * c + 3))).1.symm))
  refine v_iinc (nI (8 * (c + 1))) C dL_law_977 rfl (inc8 c) (Nat.le_of_ble_eq_true rfl) rfl ?_
  refine v_goto 18 C dL_law_980 (by decide) ?_
  exact v_widen (by omega) (by omega) (next _ _ _ _ g (r_cold h (sc (8 * c + 1)) (sc (8 * c + 2)) (sc (8 * c + 3))).2 hg)

set_option maxHeartbeats 4000000 in
set_option maxRecDepth 100000 in
theorem lc_go {E : En} {X : Ctx} {nm : String} {Z : State → Prop} {b L c g : Nat} {sc : Nat → Int32} {sh : List Sh} {I : IM} {J : JM} {R : RM} (C : Cx E X RL code 4 ret nm room_1) (hX : va_X b L sc (xs X) (xs X).heap) (hbl : b < (xs X).heap.size) (hbE : b < e_b E) (h : Rel sh I J R c) (hg : GF R g) (hcL : 8 * c + 8 ≤ L) (hL : L ≤ 4096) (next : NX E X Z b c) : V E X Z (90 + 2 * g + c) (1457153 + 9 * c + 49062 * g) sh I J R 270 [some (.retAddr b), some (.ref 0), some (.ref 47), some (.int (nI (8 * c)))] [] := by
  have hs := h.st
  have hg1 := hg.le
  refine v_aload_n C dL_law_270 rfl ?_
  refine v_aloadS C dL_law_271 rfl ?_
  refine v_iload_n C dL_law_272 rfl ?_
  refine v_iconst 1 C dL_law_273 (by decide) ?_
  refine v_iadd C dL_law_274 ?_
  refine v_sld (8 * c + 1) C hX hbl hbE (at_e (nI_add (8 * c) 1) (by omega) (by omega)) dL_law_275 ?_
  refine v_callLi C (c_X10_go hs) mt_X10_go lk_RL_32 rfl rfl (hs.1 0 _ rfl) rfl rfl rfl rfl (rm_law rfl (by omega) (by omega)) dL_law_276 ?_
  refine v_aload_n C dL_law_279 rfl ?_
  refine v_aloadS C dL_law_280 rfl ?_
  refine v_iload_n C dL_law_281 rfl ?_
  refine v_iconst 1 C dL_law_282 (by decide) ?_
  refine v_iadd C dL_law_283 ?_
  refine v_sld (8 * c + 1) C hX hbl hbE (at_e (nI_add (8 * c) 1) (by omega) (by omega)) dL_law_284 ?_
  refine v_callLi C (c_X11_go hs) mt_X11_go lk_RL_36 rfl rfl (hs.1 47 _ rfl) rfl rfl rfl rfl (rm_law rfl (by omega) (by omega)) dL_law_285 ?_
  refine v_icmp_eq 977 C dL_law_288 (by decide) (fun h288 => ?_) (fun h288 => False.elim (h288 (r_go h (sc (8 * c + 1))).1.symm))
  refine v_iinc (nI (8 * (c + 1))) C dL_law_977 rfl (inc8 c) (Nat.le_of_ble_eq_true rfl) rfl ?_
  refine v_goto 18 C dL_law_980 (by decide) ?_
  exact v_widen (by omega) (by omega) (next _ _ _ _ g (r_go h (sc (8 * c + 1))).2 hg)

set_option maxHeartbeats 4000000 in
set_option maxRecDepth 100000 in
theorem lc_feed {E : En} {X : Ctx} {nm : String} {Z : State → Prop} {b L c g : Nat} {sc : Nat → Int32} {sh : List Sh} {I : IM} {J : JM} {R : RM} (C : Cx E X RL code 4 ret nm room_1) (hX : va_X b L sc (xs X) (xs X).heap) (hbl : b < (xs X).heap.size) (hbE : b < e_b E) (h : Rel sh I J R c) (hg : GF R g) (hcL : 8 * c + 8 ≤ L) (hL : L ≤ 4096) (next : NX E X Z b c) : V E X Z (90 + 2 * g + c) (1457153 + 9 * c + 49062 * g) sh I J R 293 [some (.retAddr b), some (.ref 0), some (.ref 47), some (.int (nI (8 * c)))] [] := by
  have hs := h.st
  have hg1 := hg.le
  obtain ⟨n, hn, hx, hy⟩ := id h.tx.1
  refine v_aload_n C dL_law_293 rfl ?_
  refine v_aloadS C dL_law_294 rfl ?_
  refine v_iload_n C dL_law_295 rfl ?_
  refine v_iconst 1 C dL_law_296 (by decide) ?_
  refine v_iadd C dL_law_297 ?_
  refine v_sld (8 * c + 1) C hX hbl hbE (at_e (nI_add (8 * c) 1) (by omega) (by omega)) dL_law_298 ?_
  refine v_aloadS C dL_law_299 rfl ?_
  refine v_iload_n C dL_law_300 rfl ?_
  refine v_iconst 2 C dL_law_301 (by decide) ?_
  refine v_iadd C dL_law_302 ?_
  refine v_sld (8 * c + 2) C hX hbl hbE (at_e (nI_add (8 * c) 2) (by omega) (by omega)) dL_law_303 ?_
  refine v_aloadS C dL_law_304 rfl ?_
  refine v_iload_n C dL_law_305 rfl ?_
  refine v_iconst 3 C dL_law_306 (by decide) ?_
  refine v_iadd C dL_law_307 ?_
  refine v_sld (8 * c + 3) C hX hbl hbE (at_e (nI_add (8 * c) 3) (by omega) (by omega)) dL_law_308 ?_
  refine v_aloadS C dL_law_309 rfl ?_
  refine v_iload_n C dL_law_310 rfl ?_
  refine v_iconst 4 C dL_law_311 (by decide) ?_
  refine v_iadd C dL_law_312 ?_
  refine v_sld (8 * c + 4) C hX hbl hbE (at_e (nI_add (8 * c) 4) (by omega) (by omega)) dL_law_313 ?_
  refine v_aloadS C dL_law_314 rfl ?_
  refine v_iload_n C dL_law_315 rfl ?_
  refine v_iconst 5 C dL_law_316 (by decide) ?_
  refine v_iadd C dL_law_317 ?_
  refine v_sld (8 * c + 5) C hX hbl hbE (at_e (nI_add (8 * c) 5) (by omega) (by omega)) dL_law_318 ?_
  refine v_callLi C (c_X10_feed hs hx hn) mt_X10_feed lk_RL_37 rfl rfl (hs.1 0 _ rfl) rfl rfl rfl rfl (rm_law rfl (by omega) (by omega)) dL_law_319 ?_
  refine v_aload_n C dL_law_322 rfl ?_
  refine v_aloadS C dL_law_323 rfl ?_
  refine v_iload_n C dL_law_324 rfl ?_
  refine v_iconst 1 C dL_law_325 (by decide) ?_
  refine v_iadd C dL_law_326 ?_
  refine v_sld (8 * c + 1) C hX hbl hbE (at_e (nI_add (8 * c) 1) (by omega) (by omega)) dL_law_327 ?_
  refine v_aloadS C dL_law_328 rfl ?_
  refine v_iload_n C dL_law_329 rfl ?_
  refine v_iconst 2 C dL_law_330 (by decide) ?_
  refine v_iadd C dL_law_331 ?_
  refine v_sld (8 * c + 2) C hX hbl hbE (at_e (nI_add (8 * c) 2) (by omega) (by omega)) dL_law_332 ?_
  refine v_aloadS C dL_law_333 rfl ?_
  refine v_iload_n C dL_law_334 rfl ?_
  refine v_iconst 3 C dL_law_335 (by decide) ?_
  refine v_iadd C dL_law_336 ?_
  refine v_sld (8 * c + 3) C hX hbl hbE (at_e (nI_add (8 * c) 3) (by omega) (by omega)) dL_law_337 ?_
  refine v_aloadS C dL_law_338 rfl ?_
  refine v_iload_n C dL_law_339 rfl ?_
  refine v_iconst 4 C dL_law_340 (by decide) ?_
  refine v_iadd C dL_law_341 ?_
  refine v_sld (8 * c + 4) C hX hbl hbE (at_e (nI_add (8 * c) 4) (by omega) (by omega)) dL_law_342 ?_
  refine v_aloadS C dL_law_343 rfl ?_
  refine v_iload_n C dL_law_344 rfl ?_
  refine v_iconst 5 C dL_law_345 (by decide) ?_
  refine v_iadd C dL_law_346 ?_
  refine v_sld (8 * c + 5) C hX hbl hbE (at_e (nI_add (8 * c) 5) (by omega) (by omega)) dL_law_347 ?_
  refine v_callLi C (c_X11_feed hs (feed48 hy) hn) mt_X11_feed lk_RL_41 rfl rfl (hs.1 47 _ rfl) rfl rfl rfl rfl (rm_law rfl (by omega) (by omega)) dL_law_348 ?_
  refine v_icmp_eq 977 C dL_law_351 (by decide) (fun h351 => ?_) (fun h351 => False.elim (h351 rfl))
  refine v_iinc (nI (8 * (c + 1))) C dL_law_977 rfl (inc8 c) (Nat.le_of_ble_eq_true rfl) rfl ?_
  refine v_goto 18 C dL_law_980 (by decide) ?_
  exact v_widen (by omega) (by omega) (next _ _ _ _ g (feed_r (n := n) h (sc (8 * c + 1)) (sc (8 * c + 2)) (sc (8 * c + 3)) (sc (8 * c + 4)) (sc (8 * c + 5))) hg)

set_option maxHeartbeats 4000000 in
set_option maxRecDepth 100000 in
theorem lc_end {E : En} {X : Ctx} {nm : String} {Z : State → Prop} {b L c g : Nat} {sc : Nat → Int32} {sh : List Sh} {I : IM} {J : JM} {R : RM} (C : Cx E X RL code 4 ret nm room_1) (hX : va_X b L sc (xs X) (xs X).heap) (hbl : b < (xs X).heap.size) (hbE : b < e_b E) (h : Rel sh I J R c) (hg : GF R g) (hcL : 8 * c + 8 ≤ L) (hL : L ≤ 4096) (next : NX E X Z b c) : V E X Z (90 + 2 * g + c) (1457153 + 9 * c + 49062 * g) sh I J R 356 [some (.retAddr b), some (.ref 0), some (.ref 47), some (.int (nI (8 * c)))] [] := by
  have hs := h.st
  have hg1 := hg.le
  refine v_aload_n C dL_law_356 rfl ?_
  refine v_aloadS C dL_law_357 rfl ?_
  refine v_iload_n C dL_law_358 rfl ?_
  refine v_iconst 1 C dL_law_359 (by decide) ?_
  refine v_iadd C dL_law_360 ?_
  refine v_sld (8 * c + 1) C hX hbl hbE (at_e (nI_add (8 * c) 1) (by omega) (by omega)) dL_law_361 ?_
  refine v_callLi C (c_X10_end hs) mt_X10_end lk_RL_42 rfl rfl (hs.1 0 _ rfl) rfl rfl rfl rfl (rm_law rfl (by omega) (by omega)) dL_law_362 ?_
  refine v_aload_n C dL_law_365 rfl ?_
  refine v_aloadS C dL_law_366 rfl ?_
  refine v_iload_n C dL_law_367 rfl ?_
  refine v_iconst 1 C dL_law_368 (by decide) ?_
  refine v_iadd C dL_law_369 ?_
  refine v_sld (8 * c + 1) C hX hbl hbE (at_e (nI_add (8 * c) 1) (by omega) (by omega)) dL_law_370 ?_
  refine v_callLi C (c_X11_end hs) mt_X11_end lk_RL_45 rfl rfl (hs.1 47 _ rfl) rfl rfl rfl rfl (rm_law rfl (by omega) (by omega)) dL_law_371 ?_
  refine v_icmp_eq 977 C dL_law_374 (by decide) (fun h374 => ?_) (fun h374 => False.elim (h374 (r_end h (sc (8 * c + 1))).1.symm))
  refine v_iinc (nI (8 * (c + 1))) C dL_law_977 rfl (inc8 c) (Nat.le_of_ble_eq_true rfl) rfl ?_
  refine v_goto 18 C dL_law_980 (by decide) ?_
  exact v_widen (by omega) (by omega) (next _ _ _ _ g (r_end h (sc (8 * c + 1))).2 hg)

set_option maxHeartbeats 4000000 in
set_option maxRecDepth 100000 in
theorem lc_spans {E : En} {X : Ctx} {nm : String} {Z : State → Prop} {b L c g : Nat} {sc : Nat → Int32} {sh : List Sh} {I : IM} {J : JM} {R : RM} (C : Cx E X RL code 4 ret nm room_1) (hX : va_X b L sc (xs X) (xs X).heap) (hbl : b < (xs X).heap.size) (hbE : b < e_b E) (h : Rel sh I J R c) (hg : GF R g) (hcL : 8 * c + 8 ≤ L) (hL : L ≤ 4096) (next : NX E X Z b c) : V E X Z (90 + 2 * g + c) (1457153 + 9 * c + 49062 * g) sh I J R 379 [some (.retAddr b), some (.ref 0), some (.ref 47), some (.int (nI (8 * c)))] [] := by
  have hs := h.st
  have hg1 := hg.le
  obtain ⟨n, hn, hx, hy⟩ := id h.tx.1
  refine v_aload_n C dL_law_379 rfl ?_
  refine v_callLi C (c_X10_spans hs hx hn) mt_X10_spans lk_RL_46 rfl rfl (hs.1 0 _ rfl) rfl rfl rfl rfl (rm_law rfl (by omega) (by omega)) dL_law_380 ?_
  refine v_aload_n C dL_law_383 rfl ?_
  refine v_callLi C (c_X11_spans hs (by rw [spansI_o (by decide) (by decide)]; exact hy) hn) mt_X11_spans lk_RL_50 rfl rfl (hs.1 47 _ rfl) rfl rfl rfl rfl (rm_law rfl (by omega) (by omega)) dL_law_384 ?_
  refine v_icmp_eq 977 C dL_law_387 (by decide) (fun h387 => ?_) (fun h387 => False.elim (h387 (r_spans h hx hn).1.symm))
  refine v_iinc (nI (8 * (c + 1))) C dL_law_977 rfl (inc8 c) (Nat.le_of_ble_eq_true rfl) rfl ?_
  refine v_goto 18 C dL_law_980 (by decide) ?_
  exact v_widen (by omega) (by omega) (next _ _ _ _ g (r_spans h hx hn).2 hg)

set_option maxHeartbeats 4000000 in
set_option maxRecDepth 100000 in
theorem lc_lay {E : En} {X : Ctx} {nm : String} {Z : State → Prop} {b L c g : Nat} {sc : Nat → Int32} {sh : List Sh} {I : IM} {J : JM} {R : RM} (C : Cx E X RL code 4 ret nm room_1) (hX : va_X b L sc (xs X) (xs X).heap) (hbl : b < (xs X).heap.size) (hbE : b < e_b E) (h : Rel sh I J R c) (hg : GF R g) (hcL : 8 * c + 8 ≤ L) (hL : L ≤ 4096) (next : NX E X Z b c) : V E X Z (90 + 2 * g + c) (1457153 + 9 * c + 49062 * g) sh I J R 392 [some (.retAddr b), some (.ref 0), some (.ref 47), some (.int (nI (8 * c)))] [] := by
  have hs := h.st
  have hg1 := hg.le
  obtain ⟨n, hn, hx, hy⟩ := id h.tx.2.2.1
  refine v_aload_n C dL_law_392 rfl ?_
  refine v_aloadS C dL_law_393 rfl ?_
  refine v_iload_n C dL_law_394 rfl ?_
  refine v_iconst 1 C dL_law_395 (by decide) ?_
  refine v_iadd C dL_law_396 ?_
  refine v_sld (8 * c + 1) C hX hbl hbE (at_e (nI_add (8 * c) 1) (by omega) (by omega)) dL_law_397 ?_
  refine v_aloadS C dL_law_398 rfl ?_
  refine v_iload_n C dL_law_399 rfl ?_
  refine v_iconst 2 C dL_law_400 (by decide) ?_
  refine v_iadd C dL_law_401 ?_
  refine v_sld (8 * c + 2) C hX hbl hbE (at_e (nI_add (8 * c) 2) (by omega) (by omega)) dL_law_402 ?_
  refine v_aloadS C dL_law_403 rfl ?_
  refine v_iload_n C dL_law_404 rfl ?_
  refine v_iconst 3 C dL_law_405 (by decide) ?_
  refine v_iadd C dL_law_406 ?_
  refine v_sld (8 * c + 3) C hX hbl hbE (at_e (nI_add (8 * c) 3) (by omega) (by omega)) dL_law_407 ?_
  refine v_aloadS C dL_law_408 rfl ?_
  refine v_iload_n C dL_law_409 rfl ?_
  refine v_iconst 4 C dL_law_410 (by decide) ?_
  refine v_iadd C dL_law_411 ?_
  refine v_sld (8 * c + 4) C hX hbl hbE (at_e (nI_add (8 * c) 4) (by omega) (by omega)) dL_law_412 ?_
  refine v_callLi C (c_X10_lay hs hx hn) mt_X10_lay lk_RL_51 rfl rfl (hs.1 0 _ rfl) rfl rfl rfl rfl (rm_law rfl (by omega) (by omega)) dL_law_413 ?_
  refine v_aload_n C dL_law_416 rfl ?_
  refine v_aloadS C dL_law_417 rfl ?_
  refine v_iload_n C dL_law_418 rfl ?_
  refine v_iconst 1 C dL_law_419 (by decide) ?_
  refine v_iadd C dL_law_420 ?_
  refine v_sld (8 * c + 1) C hX hbl hbE (at_e (nI_add (8 * c) 1) (by omega) (by omega)) dL_law_421 ?_
  refine v_aloadS C dL_law_422 rfl ?_
  refine v_iload_n C dL_law_423 rfl ?_
  refine v_iconst 2 C dL_law_424 (by decide) ?_
  refine v_iadd C dL_law_425 ?_
  refine v_sld (8 * c + 2) C hX hbl hbE (at_e (nI_add (8 * c) 2) (by omega) (by omega)) dL_law_426 ?_
  refine v_aloadS C dL_law_427 rfl ?_
  refine v_iload_n C dL_law_428 rfl ?_
  refine v_iconst 3 C dL_law_429 (by decide) ?_
  refine v_iadd C dL_law_430 ?_
  refine v_sld (8 * c + 3) C hX hbl hbE (at_e (nI_add (8 * c) 3) (by omega) (by omega)) dL_law_431 ?_
  refine v_aloadS C dL_law_432 rfl ?_
  refine v_iload_n C dL_law_433 rfl ?_
  refine v_iconst 4 C dL_law_434 (by decide) ?_
  refine v_iadd C dL_law_435 ?_
  refine v_sld (8 * c + 4) C hX hbl hbE (at_e (nI_add (8 * c) 4) (by omega) (by omega)) dL_law_436 ?_
  refine v_callLi C (c_X11_lay hs (by rw [lay48]; exact hy) hn) mt_X11_lay lk_RL_55 rfl rfl (hs.1 47 _ rfl) rfl rfl rfl rfl (rm_law rfl (by omega) (by omega)) dL_law_437 ?_
  refine v_icmp_eq 977 C dL_law_440 (by decide) (fun h440 => ?_) (fun h440 => False.elim (h440 (r_lay h (sc (8 * c + 1)) (sc (8 * c + 2)) (sc (8 * c + 3)) (sc (8 * c + 4)) hx).1.symm))
  refine v_iinc (nI (8 * (c + 1))) C dL_law_977 rfl (inc8 c) (Nat.le_of_ble_eq_true rfl) rfl ?_
  refine v_goto 18 C dL_law_980 (by decide) ?_
  exact v_widen (by omega) (by omega) (next _ _ _ _ g (r_lay h (sc (8 * c + 1)) (sc (8 * c + 2)) (sc (8 * c + 3)) (sc (8 * c + 4)) hx).2 hg)

set_option maxHeartbeats 4000000 in
set_option maxRecDepth 100000 in
theorem lc_buy {E : En} {X : Ctx} {nm : String} {Z : State → Prop} {b L c g : Nat} {sc : Nat → Int32} {sh : List Sh} {I : IM} {J : JM} {R : RM} (C : Cx E X RL code 4 ret nm room_1) (hX : va_X b L sc (xs X) (xs X).heap) (hbl : b < (xs X).heap.size) (hbE : b < e_b E) (h : Rel sh I J R c) (hg : GF R g) (hcL : 8 * c + 8 ≤ L) (hL : L ≤ 4096) (next : NX E X Z b c) : V E X Z (90 + 2 * g + c) (1457153 + 9 * c + 49062 * g) sh I J R 445 [some (.retAddr b), some (.ref 0), some (.ref 47), some (.int (nI (8 * c)))] [] := by
  have hs := h.st
  have hg1 := hg.le
  refine v_aload_n C dL_law_445 rfl ?_
  refine v_aloadS C dL_law_446 rfl ?_
  refine v_iload_n C dL_law_447 rfl ?_
  refine v_iconst 1 C dL_law_448 (by decide) ?_
  refine v_iadd C dL_law_449 ?_
  refine v_sld (8 * c + 1) C hX hbl hbE (at_e (nI_add (8 * c) 1) (by omega) (by omega)) dL_law_450 ?_
  refine v_callLi C (c_X10_buy hs) mt_X10_buy lk_RL_56 rfl rfl (hs.1 0 _ rfl) rfl rfl rfl rfl (rm_law rfl (by omega) (by omega)) dL_law_451 ?_
  refine v_aload_n C dL_law_454 rfl ?_
  refine v_aloadS C dL_law_455 rfl ?_
  refine v_iload_n C dL_law_456 rfl ?_
  refine v_iconst 1 C dL_law_457 (by decide) ?_
  refine v_iadd C dL_law_458 ?_
  refine v_sld (8 * c + 1) C hX hbl hbE (at_e (nI_add (8 * c) 1) (by omega) (by omega)) dL_law_459 ?_
  refine v_callLi C (c_X11_buy hs) mt_X11_buy lk_RL_59 rfl rfl (hs.1 47 _ rfl) rfl rfl rfl rfl (rm_law rfl (by omega) (by omega)) dL_law_460 ?_
  refine v_icmp_eq 977 C dL_law_463 (by decide) (fun h463 => ?_) (fun h463 => False.elim (h463 (r_buy h (sc (8 * c + 1))).1.symm))
  refine v_iinc (nI (8 * (c + 1))) C dL_law_977 rfl (inc8 c) (Nat.le_of_ble_eq_true rfl) rfl ?_
  refine v_goto 18 C dL_law_980 (by decide) ?_
  exact v_widen (by omega) (by omega) (next _ _ _ _ g (r_buy h (sc (8 * c + 1))).2 hg)

set_option maxHeartbeats 4000000 in
set_option maxRecDepth 100000 in
theorem lc_drop {E : En} {X : Ctx} {nm : String} {Z : State → Prop} {b L c g : Nat} {sc : Nat → Int32} {sh : List Sh} {I : IM} {J : JM} {R : RM} (C : Cx E X RL code 4 ret nm room_1) (hX : va_X b L sc (xs X) (xs X).heap) (hbl : b < (xs X).heap.size) (hbE : b < e_b E) (h : Rel sh I J R c) (hg : GF R g) (hcL : 8 * c + 8 ≤ L) (hL : L ≤ 4096) (next : NX E X Z b c) : V E X Z (90 + 2 * g + c) (1457153 + 9 * c + 49062 * g) sh I J R 468 [some (.retAddr b), some (.ref 0), some (.ref 47), some (.int (nI (8 * c)))] [] := by
  have hs := h.st
  have hg1 := hg.le
  refine v_aload_n C dL_law_468 rfl ?_
  refine v_aloadS C dL_law_469 rfl ?_
  refine v_iload_n C dL_law_470 rfl ?_
  refine v_iconst 1 C dL_law_471 (by decide) ?_
  refine v_iadd C dL_law_472 ?_
  refine v_sld (8 * c + 1) C hX hbl hbE (at_e (nI_add (8 * c) 1) (by omega) (by omega)) dL_law_473 ?_
  refine v_callLi C (c_X10_drop hs) mt_X10_drop lk_RL_60 rfl rfl (hs.1 0 _ rfl) rfl rfl rfl rfl (rm_law rfl (by omega) (by omega)) dL_law_474 ?_
  refine v_aload_n C dL_law_477 rfl ?_
  refine v_aloadS C dL_law_478 rfl ?_
  refine v_iload_n C dL_law_479 rfl ?_
  refine v_iconst 1 C dL_law_480 (by decide) ?_
  refine v_iadd C dL_law_481 ?_
  refine v_sld (8 * c + 1) C hX hbl hbE (at_e (nI_add (8 * c) 1) (by omega) (by omega)) dL_law_482 ?_
  refine v_callLi C (c_X11_drop hs) mt_X11_drop lk_RL_63 rfl rfl (hs.1 47 _ rfl) rfl rfl rfl rfl (rm_law rfl (by omega) (by omega)) dL_law_483 ?_
  refine v_icmp_eq 977 C dL_law_486 (by decide) (fun h486 => ?_) (fun h486 => False.elim (h486 (r_drop h (sc (8 * c + 1))).1.symm))
  refine v_iinc (nI (8 * (c + 1))) C dL_law_977 rfl (inc8 c) (Nat.le_of_ble_eq_true rfl) rfl ?_
  refine v_goto 18 C dL_law_980 (by decide) ?_
  exact v_widen (by omega) (by omega) (next _ _ _ _ g (r_drop h (sc (8 * c + 1))).2 hg)

set_option maxHeartbeats 4000000 in
set_option maxRecDepth 100000 in
theorem lc_kind {E : En} {X : Ctx} {nm : String} {Z : State → Prop} {b L c g : Nat} {sc : Nat → Int32} {sh : List Sh} {I : IM} {J : JM} {R : RM} (C : Cx E X RL code 4 ret nm room_1) (hX : va_X b L sc (xs X) (xs X).heap) (hbl : b < (xs X).heap.size) (hbE : b < e_b E) (h : Rel sh I J R c) (hg : GF R g) (hcL : 8 * c + 8 ≤ L) (hL : L ≤ 4096) (next : NX E X Z b c) : V E X Z (90 + 2 * g + c) (1457153 + 9 * c + 49062 * g) sh I J R 491 [some (.retAddr b), some (.ref 0), some (.ref 47), some (.int (nI (8 * c)))] [] := by
  have hs := h.st
  have hg1 := hg.le
  refine v_aload_n C dL_law_491 rfl ?_
  refine v_aloadS C dL_law_492 rfl ?_
  refine v_iload_n C dL_law_493 rfl ?_
  refine v_iconst 1 C dL_law_494 (by decide) ?_
  refine v_iadd C dL_law_495 ?_
  refine v_sld (8 * c + 1) C hX hbl hbE (at_e (nI_add (8 * c) 1) (by omega) (by omega)) dL_law_496 ?_
  refine v_aloadS C dL_law_497 rfl ?_
  refine v_iload_n C dL_law_498 rfl ?_
  refine v_iconst 2 C dL_law_499 (by decide) ?_
  refine v_iadd C dL_law_500 ?_
  refine v_sld (8 * c + 2) C hX hbl hbE (at_e (nI_add (8 * c) 2) (by omega) (by omega)) dL_law_501 ?_
  refine v_aloadS C dL_law_502 rfl ?_
  refine v_iload_n C dL_law_503 rfl ?_
  refine v_iconst 3 C dL_law_504 (by decide) ?_
  refine v_iadd C dL_law_505 ?_
  refine v_sld (8 * c + 3) C hX hbl hbE (at_e (nI_add (8 * c) 3) (by omega) (by omega)) dL_law_506 ?_
  refine v_aloadS C dL_law_507 rfl ?_
  refine v_iload_n C dL_law_508 rfl ?_
  refine v_iconst 4 C dL_law_509 (by decide) ?_
  refine v_iadd C dL_law_510 ?_
  refine v_sld (8 * c + 4) C hX hbl hbE (at_e (nI_add (8 * c) 4) (by omega) (by omega)) dL_law_511 ?_
  refine v_aloadS C dL_law_512 rfl ?_
  refine v_iload_n C dL_law_513 rfl ?_
  refine v_iconst 5 C dL_law_514 (by decide) ?_
  refine v_iadd C dL_law_515 ?_
  refine v_sld (8 * c + 5) C hX hbl hbE (at_e (nI_add (8 * c) 5) (by omega) (by omega)) dL_law_516 ?_
  refine v_aloadS C dL_law_517 rfl ?_
  refine v_iload_n C dL_law_518 rfl ?_
  refine v_bipush 6 C dL_law_519 (by decide) ?_
  refine v_iadd C dL_law_521 ?_
  refine v_sld (8 * c + 6) C hX hbl hbE (at_e (nI_add (8 * c) 6) (by omega) (by omega)) dL_law_522 ?_
  refine v_aloadS C dL_law_523 rfl ?_
  refine v_iload_n C dL_law_524 rfl ?_
  refine v_bipush 7 C dL_law_525 (by decide) ?_
  refine v_iadd C dL_law_527 ?_
  refine v_sld (8 * c + 7) C hX hbl hbE (at_e (nI_add (8 * c) 7) (by omega) (by omega)) dL_law_528 ?_
  refine v_callLi C (c_X10_kind hs) mt_X10_kind lk_RL_64 rfl rfl (hs.1 0 _ rfl) rfl rfl rfl rfl (rm_law rfl (by omega) (by omega)) dL_law_529 ?_
  refine v_aload_n C dL_law_532 rfl ?_
  refine v_aloadS C dL_law_533 rfl ?_
  refine v_iload_n C dL_law_534 rfl ?_
  refine v_iconst 1 C dL_law_535 (by decide) ?_
  refine v_iadd C dL_law_536 ?_
  refine v_sld (8 * c + 1) C hX hbl hbE (at_e (nI_add (8 * c) 1) (by omega) (by omega)) dL_law_537 ?_
  refine v_aloadS C dL_law_538 rfl ?_
  refine v_iload_n C dL_law_539 rfl ?_
  refine v_iconst 2 C dL_law_540 (by decide) ?_
  refine v_iadd C dL_law_541 ?_
  refine v_sld (8 * c + 2) C hX hbl hbE (at_e (nI_add (8 * c) 2) (by omega) (by omega)) dL_law_542 ?_
  refine v_aloadS C dL_law_543 rfl ?_
  refine v_iload_n C dL_law_544 rfl ?_
  refine v_iconst 3 C dL_law_545 (by decide) ?_
  refine v_iadd C dL_law_546 ?_
  refine v_sld (8 * c + 3) C hX hbl hbE (at_e (nI_add (8 * c) 3) (by omega) (by omega)) dL_law_547 ?_
  refine v_aloadS C dL_law_548 rfl ?_
  refine v_iload_n C dL_law_549 rfl ?_
  refine v_iconst 4 C dL_law_550 (by decide) ?_
  refine v_iadd C dL_law_551 ?_
  refine v_sld (8 * c + 4) C hX hbl hbE (at_e (nI_add (8 * c) 4) (by omega) (by omega)) dL_law_552 ?_
  refine v_aloadS C dL_law_553 rfl ?_
  refine v_iload_n C dL_law_554 rfl ?_
  refine v_iconst 5 C dL_law_555 (by decide) ?_
  refine v_iadd C dL_law_556 ?_
  refine v_sld (8 * c + 5) C hX hbl hbE (at_e (nI_add (8 * c) 5) (by omega) (by omega)) dL_law_557 ?_
  refine v_aloadS C dL_law_558 rfl ?_
  refine v_iload_n C dL_law_559 rfl ?_
  refine v_bipush 6 C dL_law_560 (by decide) ?_
  refine v_iadd C dL_law_562 ?_
  refine v_sld (8 * c + 6) C hX hbl hbE (at_e (nI_add (8 * c) 6) (by omega) (by omega)) dL_law_563 ?_
  refine v_aloadS C dL_law_564 rfl ?_
  refine v_iload_n C dL_law_565 rfl ?_
  refine v_bipush 7 C dL_law_566 (by decide) ?_
  refine v_iadd C dL_law_568 ?_
  refine v_sld (8 * c + 7) C hX hbl hbE (at_e (nI_add (8 * c) 7) (by omega) (by omega)) dL_law_569 ?_
  refine v_callLi C (c_X11_kind hs) mt_X11_kind lk_RL_68 rfl rfl (hs.1 47 _ rfl) rfl rfl rfl rfl (rm_law rfl (by omega) (by omega)) dL_law_570 ?_
  refine v_icmp_eq 977 C dL_law_573 (by decide) (fun h573 => ?_) (fun h573 => False.elim (h573 rfl))
  refine v_iinc (nI (8 * (c + 1))) C dL_law_977 rfl (inc8 c) (Nat.le_of_ble_eq_true rfl) rfl ?_
  refine v_goto 18 C dL_law_980 (by decide) ?_
  exact v_widen (by omega) (by omega) (next _ _ _ _ g (r_kind h (sc (8 * c + 1)) (sc (8 * c + 2)) (sc (8 * c + 3)) (sc (8 * c + 4)) (sc (8 * c + 5)) (sc (8 * c + 6)) (sc (8 * c + 7))) hg)

set_option maxHeartbeats 4000000 in
set_option maxRecDepth 100000 in
theorem lc_blow {E : En} {X : Ctx} {nm : String} {Z : State → Prop} {b L c g : Nat} {sc : Nat → Int32} {sh : List Sh} {I : IM} {J : JM} {R : RM} (C : Cx E X RL code 4 ret nm room_1) (hX : va_X b L sc (xs X) (xs X).heap) (hbl : b < (xs X).heap.size) (hbE : b < e_b E) (h : Rel sh I J R c) (hg : GF R g) (hcL : 8 * c + 8 ≤ L) (hL : L ≤ 4096) (next : NX E X Z b c) : V E X Z (90 + 2 * g + c) (1457153 + 9 * c + 49062 * g) sh I J R 578 [some (.retAddr b), some (.ref 0), some (.ref 47), some (.int (nI (8 * c)))] [] := by
  have hs := h.st
  have hg1 := hg.le
  obtain ⟨n, pa, hnc, h14, h27, hp⟩ := id h.pc
  have hcl : ∀ j, (fun j => if j < 3 then (pl I pa n j).length else 0) j ≤ 20 := fun j => by
    show (if j < 3 then (pl I pa n j).length else 0) ≤ 20
    split
    · rename_i q; exact (hp.2.2.1 j q).1.2.1
    · omega
  refine v_aload_n C dL_law_578 rfl ?_
  refine v_aloadS C dL_law_579 rfl ?_
  refine v_iload_n C dL_law_580 rfl ?_
  refine v_iconst 1 C dL_law_581 (by decide) ?_
  refine v_iadd C dL_law_582 ?_
  refine v_sld (8 * c + 1) C hX hbl hbE (at_e (nI_add (8 * c) 1) (by omega) (by omega)) dL_law_583 ?_
  refine v_aloadS C dL_law_584 rfl ?_
  refine v_iload_n C dL_law_585 rfl ?_
  refine v_iconst 2 C dL_law_586 (by decide) ?_
  refine v_iadd C dL_law_587 ?_
  refine v_sld (8 * c + 2) C hX hbl hbE (at_e (nI_add (8 * c) 2) (by omega) (by omega)) dL_law_588 ?_
  refine v_aloadS C dL_law_589 rfl ?_
  refine v_iload_n C dL_law_590 rfl ?_
  refine v_iconst 3 C dL_law_591 (by decide) ?_
  refine v_iadd C dL_law_592 ?_
  refine v_sld (8 * c + 3) C hX hbl hbE (at_e (nI_add (8 * c) 3) (by omega) (by omega)) dL_law_593 ?_
  refine v_callV C (c_X10_blow (n := n) (fun j => if j < 3 then (pl I pa n j).length else 0) hs h.bl h14 (by omega) (hp.2.2.1 0 (by decide)).1.1 (hp.2.2.1 1 (by decide)).1.1 (hp.2.2.1 2 (by decide)).1.1 hcl) mt_X10_blow lk_RL_69 rfl rfl (hs.1 0 _ rfl) rfl rfl rfl (Nat.le_of_ble_eq_true rfl) (rm_law rfl (by omega) (by omega)) dL_law_594 ?_
  intro v sh1 I1 J1 R1 hQ
  obtain ⟨hs, h27, ev, eJ, hRel, e39⟩ := r_blow h hnc h14 h27 hp (by omega) (cs := (fun j => if j < 3 then (pl I pa n j).length else 0)) (fun b hb => if_pos hb) hQ
  subst ev
  rw [← eJ] at hRel
  refine v_aload_n C dL_law_597 rfl ?_
  refine v_aloadS C dL_law_598 rfl ?_
  refine v_iload_n C dL_law_599 rfl ?_
  refine v_iconst 1 C dL_law_600 (by decide) ?_
  refine v_iadd C dL_law_601 ?_
  refine v_sld (8 * c + 1) C hX hbl hbE (at_e (nI_add (8 * c) 1) (by omega) (by omega)) dL_law_602 ?_
  refine v_aloadS C dL_law_603 rfl ?_
  refine v_iload_n C dL_law_604 rfl ?_
  refine v_iconst 2 C dL_law_605 (by decide) ?_
  refine v_iadd C dL_law_606 ?_
  refine v_sld (8 * c + 2) C hX hbl hbE (at_e (nI_add (8 * c) 2) (by omega) (by omega)) dL_law_607 ?_
  refine v_aloadS C dL_law_608 rfl ?_
  refine v_iload_n C dL_law_609 rfl ?_
  refine v_iconst 3 C dL_law_610 (by decide) ?_
  refine v_iadd C dL_law_611 ?_
  refine v_sld (8 * c + 3) C hX hbl hbE (at_e (nI_add (8 * c) 3) (by omega) (by omega)) dL_law_612 ?_
  refine v_callLi C (c_X11_blow hs h27 (by omega)) mt_X11_blow lk_RL_72 rfl rfl (hs.1 47 _ rfl) rfl rfl rfl rfl (rm_law rfl (by omega) (by omega)) dL_law_613 ?_
  refine v_icmp_eq 977 C dL_law_616 (by decide) (fun h616 => ?_) (fun h616 => False.elim (h616 rfl))
  refine v_iinc (nI (8 * (c + 1))) C dL_law_977 rfl (inc8 c) (Nat.le_of_ble_eq_true rfl) rfl ?_
  refine v_goto 18 C dL_law_980 (by decide) ?_
  have hg2 : GF R1 g := by unfold GF; rw [e39]; exact hg
  exact v_widen (by omega) (by omega) (next _ _ _ _ g hRel hg2)

set_option maxHeartbeats 4000000 in
set_option maxRecDepth 100000 in
theorem lc_open {E : En} {X : Ctx} {nm : String} {Z : State → Prop} {b L c g : Nat} {sc : Nat → Int32} {sh : List Sh} {I : IM} {J : JM} {R : RM} (C : Cx E X RL code 4 ret nm room_1) (hX : va_X b L sc (xs X) (xs X).heap) (hbl : b < (xs X).heap.size) (hbE : b < e_b E) (h : Rel sh I J R c) (hg : GF R g) (hcL : 8 * c + 8 ≤ L) (hL : L ≤ 4096) (next : NX E X Z b c) : V E X Z (90 + 2 * g + c) (1457153 + 9 * c + 49062 * g) sh I J R 621 [some (.retAddr b), some (.ref 0), some (.ref 47), some (.int (nI (8 * c)))] [] := by
  have hs := h.st
  have hg1 := hg.le
  obtain ⟨n, pa, hnc, h14, h27, hp⟩ := id h.pc
  refine v_aload_n C dL_law_621 rfl ?_
  refine v_aloadS C dL_law_622 rfl ?_
  refine v_iload_n C dL_law_623 rfl ?_
  refine v_iconst 1 C dL_law_624 (by decide) ?_
  refine v_iadd C dL_law_625 ?_
  refine v_sld (8 * c + 1) C hX hbl hbE (at_e (nI_add (8 * c) 1) (by omega) (by omega)) dL_law_626 ?_
  refine v_callLi C (c_X10_open (l := pl I pa n (ix (sc (8 * c + 1)))) hs (fun hw => (hp.2.2.1 (ix (sc (8 * c + 1))) (open_lt hw)).1)) mt_X10_open lk_RL_73 rfl rfl (hs.1 0 _ rfl) rfl rfl rfl rfl (rm_law rfl (by omega) (by omega)) dL_law_627 ?_
  refine v_aload_n C dL_law_630 rfl ?_
  refine v_aloadS C dL_law_631 rfl ?_
  refine v_iload_n C dL_law_632 rfl ?_
  refine v_iconst 1 C dL_law_633 (by decide) ?_
  refine v_iadd C dL_law_634 ?_
  refine v_sld (8 * c + 1) C hX hbl hbE (at_e (nI_add (8 * c) 1) (by omega) (by omega)) dL_law_635 ?_
  refine v_callLi C (c_X11_open (n := n) hs (by rw [openI_48 hp]; exact h27) (by omega)) mt_X11_open lk_RL_76 rfl rfl (hs.1 47 _ rfl) rfl rfl rfl rfl (rm_law rfl (by omega) (by omega)) dL_law_636 ?_
  refine v_icmp_eq 977 C dL_law_639 (by decide) (fun h639 => ?_) (fun h639 => False.elim (h639 (r_open h hnc h14 h27 hp (sc (8 * c + 1))).1.symm))
  refine v_iinc (nI (8 * (c + 1))) C dL_law_977 rfl (inc8 c) (Nat.le_of_ble_eq_true rfl) rfl ?_
  refine v_goto 18 C dL_law_980 (by decide) ?_
  exact v_widen (by omega) (by omega) (next _ _ _ _ g (r_open h hnc h14 h27 hp (sc (8 * c + 1))).2 hg)

set_option maxHeartbeats 4000000 in
set_option maxRecDepth 100000 in
theorem lc_pass {E : En} {X : Ctx} {nm : String} {Z : State → Prop} {b L c g : Nat} {sc : Nat → Int32} {sh : List Sh} {I : IM} {J : JM} {R : RM} (C : Cx E X RL code 4 ret nm room_1) (hX : va_X b L sc (xs X) (xs X).heap) (hbl : b < (xs X).heap.size) (hbE : b < e_b E) (h : Rel sh I J R c) (hg : GF R g) (hcL : 8 * c + 8 ≤ L) (hL : L ≤ 4096) (next : NX E X Z b c) : V E X Z (90 + 2 * g + c) (1457153 + 9 * c + 49062 * g) sh I J R 644 [some (.retAddr b), some (.ref 0), some (.ref 47), some (.int (nI (8 * c)))] [] := by
  have hs := h.st
  have hg1 := hg.le
  obtain ⟨n, pa, hnc, h14, h27, hp⟩ := id h.pc
  obtain ⟨ns, hns, hx, hy⟩ := id h.sc.2.2.2.2.2.2.1
  refine v_aload_n C dL_law_644 rfl ?_
  refine v_aloadS C dL_law_645 rfl ?_
  refine v_iload_n C dL_law_646 rfl ?_
  refine v_iconst 1 C dL_law_647 (by decide) ?_
  refine v_iadd C dL_law_648 ?_
  refine v_sld (8 * c + 1) C hX hbl hbE (at_e (nI_add (8 * c) 1) (by omega) (by omega)) dL_law_649 ?_
  refine v_callV C (c_X10_pass (n := ns) hs hx hns (hp.2.2.1 0 (by decide)).1 (hp.2.2.1 1 (by decide)).1 (hp.2.2.1 2 (by decide)).1) mt_X10_pass lk_RL_77 rfl rfl (hs.1 0 _ rfl) rfl rfl rfl (Nat.le_of_ble_eq_true rfl) (rm_law rfl (by omega) (by omega)) dL_law_650 ?_
  intro v sh1 I1 J1 R1 hQ
  rcases Classical.em (wI (sc (8 * c + 1)) 1 500 = 0 ∨ ¬ I 0 11 + (sc (8 * c + 1)) ≤ 5000) with hq | hq
  · obtain ⟨e1, e2, e3, e4, e5⟩ := hQ.1 hq
    subst e1
    obtain rfl := e2.symm
    obtain rfl := e3.symm
    obtain rfl := e4.symm
    obtain rfl := e5.symm
    refine v_aload_n C dL_law_653 rfl ?_
    refine v_aloadS C dL_law_654 rfl ?_
    refine v_iload_n C dL_law_655 rfl ?_
    refine v_iconst 1 C dL_law_656 (by decide) ?_
    refine v_iadd C dL_law_657 ?_
    refine v_sld (8 * c + 1) C hX hbl hbE (at_e (nI_add (8 * c) 1) (by omega) (by omega)) dL_law_658 ?_
    refine v_callLi C (c_X11_pass (n := ns) (np := n) hs hy hns h27 (by omega) (bayM_of hp)) mt_X11_pass lk_RL_80 rfl rfl (hs.1 47 _ rfl) rfl rfl rfl rfl (rm_law rfl (by omega) (by omega)) dL_law_659 ?_
    have hr := pass_no (n := ns) (np := n) h hq
    refine v_icmp_eq 977 C dL_law_662 (by decide) (fun h662 => ?_) (fun h662 => False.elim (h662 hr.1.symm))
    refine v_iinc (nI (8 * (c + 1))) C dL_law_977 rfl (inc8 c) (Nat.le_of_ble_eq_true rfl) rfl ?_
    refine v_goto 18 C dL_law_980 (by decide) ?_
    rw [hr.2]
    exact v_widen (by omega) (by omega) (next _ _ _ _ g h.mono hg)
  · have hw : ¬ wI (sc (8 * c + 1)) 1 500 = 0 := fun z => hq (Or.inl z)
    have hle : I 0 11 + (sc (8 * c + 1)) ≤ 5000 := Classical.not_not.mp (fun z => hq (Or.inr z))
    obtain ⟨e1, e2, e3, e4, hPI⟩ := hQ.2 hw hle
    have mid := pass_mid (ns := ns) h hp hw
    rw [← e3] at mid
    have hr := pass_rel h hnc h14 h27 hp hw hle hPI e3
    rw [← e3] at e1
    subst e1
    obtain rfl := e2.symm
    obtain rfl := e4.symm
    have hs := hPI.1
    have hbm : BayM n 0 I1 := by
      have q := bayM_of hp
      unfold BayM at q ⊢
      rw [mid 71 (by decide) (by decide), mid 72 (by decide) (by decide)]
      exact q
    refine v_aload_n C dL_law_653 rfl ?_
    refine v_aloadS C dL_law_654 rfl ?_
    refine v_iload_n C dL_law_655 rfl ?_
    refine v_iconst 1 C dL_law_656 (by decide) ?_
    refine v_iadd C dL_law_657 ?_
    refine v_sld (8 * c + 1) C hX hbl hbE (at_e (nI_add (8 * c) 1) (by omega) (by omega)) dL_law_658 ?_
    refine v_callLi C (c_X11_pass (n := ns) (np := n) hs (by rw [mid 47 (by decide) (by decide)]; exact hy) hns (by rw [mid 47 (by decide) (by decide)]; exact h27) (by omega) hbm) mt_X11_pass lk_RL_80 rfl rfl (hs.1 47 _ rfl) rfl rfl rfl rfl (rm_law rfl (by omega) (by omega)) dL_law_659 ?_
    refine v_icmp_eq 977 C dL_law_662 (by decide) (fun h662 => ?_) (fun h662 => False.elim (h662 hr.1.symm))
    refine v_iinc (nI (8 * (c + 1))) C dL_law_977 rfl (inc8 c) (Nat.le_of_ble_eq_true rfl) rfl ?_
    refine v_goto 18 C dL_law_980 (by decide) ?_
    have hg2 : GF R1 g := by unfold GF; rw [hPI.2.2.2.2.2 39 (by decide) (by decide) (by decide)]; exact hg
    exact v_widen (by omega) (by omega) (next _ _ _ _ g hr.2 hg2)

set_option maxHeartbeats 4000000 in
set_option maxRecDepth 100000 in
theorem lc_pot {E : En} {X : Ctx} {nm : String} {Z : State → Prop} {b L c g : Nat} {sc : Nat → Int32} {sh : List Sh} {I : IM} {J : JM} {R : RM} (C : Cx E X RL code 4 ret nm room_1) (hX : va_X b L sc (xs X) (xs X).heap) (hbl : b < (xs X).heap.size) (hbE : b < e_b E) (h : Rel sh I J R c) (hg : GF R g) (hcL : 8 * c + 8 ≤ L) (hL : L ≤ 4096) (next : NX E X Z b c) : V E X Z (90 + 2 * g + c) (1457153 + 9 * c + 49062 * g) sh I J R 667 [some (.retAddr b), some (.ref 0), some (.ref 47), some (.int (nI (8 * c)))] [] := by
  have hs := h.st
  have hg1 := hg.le
  refine v_aload_n C dL_law_667 rfl ?_
  refine v_aloadS C dL_law_668 rfl ?_
  refine v_iload_n C dL_law_669 rfl ?_
  refine v_iconst 1 C dL_law_670 (by decide) ?_
  refine v_iadd C dL_law_671 ?_
  refine v_sld (8 * c + 1) C hX hbl hbE (at_e (nI_add (8 * c) 1) (by omega) (by omega)) dL_law_672 ?_
  refine v_aloadS C dL_law_673 rfl ?_
  refine v_iload_n C dL_law_674 rfl ?_
  refine v_iconst 2 C dL_law_675 (by decide) ?_
  refine v_iadd C dL_law_676 ?_
  refine v_sld (8 * c + 2) C hX hbl hbE (at_e (nI_add (8 * c) 2) (by omega) (by omega)) dL_law_677 ?_
  refine v_callLi C (c_X10_pot hs) mt_X10_pot lk_RL_81 rfl rfl (hs.1 0 _ rfl) rfl rfl rfl rfl (rm_law rfl (by omega) (by omega)) dL_law_678 ?_
  refine v_aload_n C dL_law_681 rfl ?_
  refine v_aloadS C dL_law_682 rfl ?_
  refine v_iload_n C dL_law_683 rfl ?_
  refine v_iconst 1 C dL_law_684 (by decide) ?_
  refine v_iadd C dL_law_685 ?_
  refine v_sld (8 * c + 1) C hX hbl hbE (at_e (nI_add (8 * c) 1) (by omega) (by omega)) dL_law_686 ?_
  refine v_aloadS C dL_law_687 rfl ?_
  refine v_iload_n C dL_law_688 rfl ?_
  refine v_iconst 2 C dL_law_689 (by decide) ?_
  refine v_iadd C dL_law_690 ?_
  refine v_sld (8 * c + 2) C hX hbl hbE (at_e (nI_add (8 * c) 2) (by omega) (by omega)) dL_law_691 ?_
  refine v_callLi C (c_X11_pot hs) mt_X11_pot lk_RL_84 rfl rfl (hs.1 47 _ rfl) rfl rfl rfl rfl (rm_law rfl (by omega) (by omega)) dL_law_692 ?_
  refine v_icmp_eq 977 C dL_law_695 (by decide) (fun h695 => ?_) (fun h695 => False.elim (h695 (r_pot h (sc (8 * c + 1)) (sc (8 * c + 2))).symm))
  refine v_iinc (nI (8 * (c + 1))) C dL_law_977 rfl (inc8 c) (Nat.le_of_ble_eq_true rfl) rfl ?_
  refine v_goto 18 C dL_law_980 (by decide) ?_
  exact v_widen (by omega) (by omega) (next _ _ _ _ g (h.mono) hg)

set_option maxHeartbeats 4000000 in
set_option maxRecDepth 100000 in
theorem lc_piece {E : En} {X : Ctx} {nm : String} {Z : State → Prop} {b L c g : Nat} {sc : Nat → Int32} {sh : List Sh} {I : IM} {J : JM} {R : RM} (C : Cx E X RL code 4 ret nm room_1) (hX : va_X b L sc (xs X) (xs X).heap) (hbl : b < (xs X).heap.size) (hbE : b < e_b E) (h : Rel sh I J R c) (hg : GF R g) (hcL : 8 * c + 8 ≤ L) (hL : L ≤ 4096) (next : NX E X Z b c) : V E X Z (90 + 2 * g + c) (1457153 + 9 * c + 49062 * g) sh I J R 700 [some (.retAddr b), some (.ref 0), some (.ref 47), some (.int (nI (8 * c)))] [] := by
  have hs := h.st
  have hg1 := hg.le
  obtain ⟨n, pa, hnc, h14, h27, hp⟩ := id h.pc
  refine v_aload_n C dL_law_700 rfl ?_
  refine v_aloadS C dL_law_701 rfl ?_
  refine v_iload_n C dL_law_702 rfl ?_
  refine v_iconst 1 C dL_law_703 (by decide) ?_
  refine v_iadd C dL_law_704 ?_
  refine v_sld (8 * c + 1) C hX hbl hbE (at_e (nI_add (8 * c) 1) (by omega) (by omega)) dL_law_705 ?_
  refine v_aloadS C dL_law_706 rfl ?_
  refine v_iload_n C dL_law_707 rfl ?_
  refine v_iconst 2 C dL_law_708 (by decide) ?_
  refine v_iadd C dL_law_709 ?_
  refine v_sld (8 * c + 2) C hX hbl hbE (at_e (nI_add (8 * c) 2) (by omega) (by omega)) dL_law_710 ?_
  refine v_callLi C (c_X10_piece pa hs h14 (by omega) (fun k hk => ⟨(hp.1 k hk).1, (hp.1 k hk).2.1⟩)) mt_X10_piece lk_RL_85 rfl rfl (hs.1 0 _ rfl) rfl rfl rfl rfl (rm_law rfl (by omega) (by omega)) dL_law_711 ?_
  refine v_aload_n C dL_law_714 rfl ?_
  refine v_aloadS C dL_law_715 rfl ?_
  refine v_iload_n C dL_law_716 rfl ?_
  refine v_iconst 1 C dL_law_717 (by decide) ?_
  refine v_iadd C dL_law_718 ?_
  refine v_sld (8 * c + 1) C hX hbl hbE (at_e (nI_add (8 * c) 1) (by omega) (by omega)) dL_law_719 ?_
  refine v_aloadS C dL_law_720 rfl ?_
  refine v_iload_n C dL_law_721 rfl ?_
  refine v_iconst 2 C dL_law_722 (by decide) ?_
  refine v_iadd C dL_law_723 ?_
  refine v_sld (8 * c + 2) C hX hbl hbE (at_e (nI_add (8 * c) 2) (by omega) (by omega)) dL_law_724 ?_
  refine v_callLi C (c_X11_piece hs (piece_at h27 (by omega))) mt_X11_piece lk_RL_88 rfl rfl (hs.1 47 _ rfl) rfl rfl rfl rfl (rm_law rfl (by omega) (by omega)) dL_law_725 ?_
  refine v_icmp_eq 977 C dL_law_728 (by decide) (fun h728 => ?_) (fun h728 => False.elim (h728 (r_piece h14 h27 (by omega) hp (sc (8 * c + 1)) (sc (8 * c + 2))).symm))
  refine v_iinc (nI (8 * (c + 1))) C dL_law_977 rfl (inc8 c) (Nat.le_of_ble_eq_true rfl) rfl ?_
  refine v_goto 18 C dL_law_980 (by decide) ?_
  exact v_widen (by omega) (by omega) (next _ _ _ _ g (h.mono) hg)

set_option maxHeartbeats 4000000 in
set_option maxRecDepth 100000 in
theorem lc_pay {E : En} {X : Ctx} {nm : String} {Z : State → Prop} {b L c g : Nat} {sc : Nat → Int32} {sh : List Sh} {I : IM} {J : JM} {R : RM} (C : Cx E X RL code 4 ret nm room_1) (hX : va_X b L sc (xs X) (xs X).heap) (hbl : b < (xs X).heap.size) (hbE : b < e_b E) (h : Rel sh I J R c) (hg : GF R g) (hcL : 8 * c + 8 ≤ L) (hL : L ≤ 4096) (next : NX E X Z b c) : V E X Z (90 + 2 * g + c) (1457153 + 9 * c + 49062 * g) sh I J R 733 [some (.retAddr b), some (.ref 0), some (.ref 47), some (.int (nI (8 * c)))] [] := by
  have hs := h.st
  have hg1 := hg.le
  obtain ⟨n, pa, hnc, h14, h27, hp⟩ := id h.pc
  refine v_aload_n C dL_law_733 rfl ?_
  refine v_aloadS C dL_law_734 rfl ?_
  refine v_iload_n C dL_law_735 rfl ?_
  refine v_iconst 1 C dL_law_736 (by decide) ?_
  refine v_iadd C dL_law_737 ?_
  refine v_sld (8 * c + 1) C hX hbl hbE (at_e (nI_add (8 * c) 1) (by omega) (by omega)) dL_law_738 ?_
  refine v_callLi C (c_X10_pay pa hs h14 (by omega) (fun k hk => ⟨(hp.1 k hk).1, (hp.1 k hk).2.1⟩)) mt_X10_pay lk_RL_89 rfl rfl (hs.1 0 _ rfl) rfl rfl rfl rfl (rm_law rfl (by omega) (by omega)) dL_law_739 ?_
  refine v_aload_n C dL_law_742 rfl ?_
  refine v_aloadS C dL_law_743 rfl ?_
  refine v_iload_n C dL_law_744 rfl ?_
  refine v_iconst 1 C dL_law_745 (by decide) ?_
  refine v_iadd C dL_law_746 ?_
  refine v_sld (8 * c + 1) C hX hbl hbE (at_e (nI_add (8 * c) 1) (by omega) (by omega)) dL_law_747 ?_
  refine v_callLi C (c_X11_pay hs h27 (by omega)) mt_X11_pay lk_RL_92 rfl rfl (hs.1 47 _ rfl) rfl rfl rfl rfl (rm_law rfl (by omega) (by omega)) dL_law_748 ?_
  refine v_icmp_eq 977 C dL_law_751 (by decide) (fun h751 => ?_) (fun h751 => False.elim (h751 (r_pay hp h.kd (sc (8 * c + 1))).symm))
  refine v_iinc (nI (8 * (c + 1))) C dL_law_977 rfl (inc8 c) (Nat.le_of_ble_eq_true rfl) rfl ?_
  refine v_goto 18 C dL_law_980 (by decide) ?_
  exact v_widen (by omega) (by omega) (next _ _ _ _ g (h.mono) hg)

set_option maxHeartbeats 4000000 in
set_option maxRecDepth 100000 in
theorem lc_shift {E : En} {X : Ctx} {nm : String} {Z : State → Prop} {b L c g : Nat} {sc : Nat → Int32} {sh : List Sh} {I : IM} {J : JM} {R : RM} (C : Cx E X RL code 4 ret nm room_1) (hX : va_X b L sc (xs X) (xs X).heap) (hbl : b < (xs X).heap.size) (hbE : b < e_b E) (h : Rel sh I J R c) (hg : GF R g) (hcL : 8 * c + 8 ≤ L) (hL : L ≤ 4096) (next : NX E X Z b c) : V E X Z (90 + 2 * g + c) (1457153 + 9 * c + 49062 * g) sh I J R 756 [some (.retAddr b), some (.ref 0), some (.ref 47), some (.int (nI (8 * c)))] [] := by
  have hs := h.st
  have hg1 := hg.le
  rcases Classical.em (wI (sc (8 * c + 1)) 0 480 = 0 ∨ wI (sc (8 * c + 2)) 0 500 = 0 ∨ wI (sc (8 * c + 3)) 0 7 = 0) with hw | hw
  · refine v_aload_n C dL_law_756 rfl ?_
    refine v_aloadS C dL_law_757 rfl ?_
    refine v_iload_n C dL_law_758 rfl ?_
    refine v_iconst 1 C dL_law_759 (by decide) ?_
    refine v_iadd C dL_law_760 ?_
    refine v_sld (8 * c + 1) C hX hbl hbE (at_e (nI_add (8 * c) 1) (by omega) (by omega)) dL_law_761 ?_
    refine v_aloadS C dL_law_762 rfl ?_
    refine v_iload_n C dL_law_763 rfl ?_
    refine v_iconst 2 C dL_law_764 (by decide) ?_
    refine v_iadd C dL_law_765 ?_
    refine v_sld (8 * c + 2) C hX hbl hbE (at_e (nI_add (8 * c) 2) (by omega) (by omega)) dL_law_766 ?_
    refine v_aloadS C dL_law_767 rfl ?_
    refine v_iload_n C dL_law_768 rfl ?_
    refine v_iconst 3 C dL_law_769 (by decide) ?_
    refine v_iadd C dL_law_770 ?_
    refine v_sld (8 * c + 3) C hX hbl hbE (at_e (nI_add (8 * c) 3) (by omega) (by omega)) dL_law_771 ?_
    refine v_callLi C (c_X10_shiftF hs hw) mt_X10_shift lk_RL_93 rfl rfl (hs.1 0 _ rfl) rfl rfl rfl rfl (rm_law rfl (by omega) (by omega)) dL_law_772 ?_
    refine v_aload_n C dL_law_775 rfl ?_
    refine v_aloadS C dL_law_776 rfl ?_
    refine v_iload_n C dL_law_777 rfl ?_
    refine v_iconst 1 C dL_law_778 (by decide) ?_
    refine v_iadd C dL_law_779 ?_
    refine v_sld (8 * c + 1) C hX hbl hbE (at_e (nI_add (8 * c) 1) (by omega) (by omega)) dL_law_780 ?_
    refine v_aloadS C dL_law_781 rfl ?_
    refine v_iload_n C dL_law_782 rfl ?_
    refine v_iconst 2 C dL_law_783 (by decide) ?_
    refine v_iadd C dL_law_784 ?_
    refine v_sld (8 * c + 2) C hX hbl hbE (at_e (nI_add (8 * c) 2) (by omega) (by omega)) dL_law_785 ?_
    refine v_aloadS C dL_law_786 rfl ?_
    refine v_iload_n C dL_law_787 rfl ?_
    refine v_iconst 3 C dL_law_788 (by decide) ?_
    refine v_iadd C dL_law_789 ?_
    refine v_sld (8 * c + 3) C hX hbl hbE (at_e (nI_add (8 * c) 3) (by omega) (by omega)) dL_law_790 ?_
    refine v_callLi C (c_X11_shiftF hs hw) mt_X11_shift lk_RL_96 rfl rfl (hs.1 47 _ rfl) rfl rfl rfl rfl (rm_law rfl (by omega) (by omega)) dL_law_791 ?_
    refine v_icmp_eq 977 C dL_law_794 (by decide) (fun h794 => ?_) (fun h794 => False.elim (h794 rfl))
    refine v_iinc (nI (8 * (c + 1))) C dL_law_977 rfl (inc8 c) (Nat.le_of_ble_eq_true rfl) rfl ?_
    refine v_goto 18 C dL_law_980 (by decide) ?_
    exact v_widen (by omega) (by omega) (next _ _ _ _ g h.mono hg)
  · have w1 : ¬ wI (sc (8 * c + 1)) 0 480 = 0 := fun z => hw (Or.inl z)
    have w2 : ¬ wI (sc (8 * c + 2)) 0 500 = 0 := fun z => hw (Or.inr (Or.inl z))
    have w3 : ¬ wI (sc (8 * c + 3)) 0 7 = 0 := fun z => hw (Or.inr (Or.inr z))
    obtain ⟨em, lm⟩ := ix_le (n := 480) w1 rfl (by decide)
    obtain ⟨eg, lg⟩ := ix_le (n := 500) w2 rfl (by decide)
    obtain ⟨K, hKC, hKM⟩ := kd_ex h.kd (sc (8 * c + 3))
    rcases Classical.em (R 39 0 = none ∧ R 39 1 = none ∧ ∃ k, k < 5 ∧ K.u k = true) with hq | hq
    · obtain ⟨hn0, hn1, hu⟩ := hq
      have hg0 : g = 0 := by
        rcases hg with ⟨q, _⟩ | ⟨_, q⟩
        · exact q
        · exact absurd hn0 q
      subst hg0
      refine v_aload_n C dL_law_756 rfl ?_
      refine v_aloadS C dL_law_757 rfl ?_
      refine v_iload_n C dL_law_758 rfl ?_
      refine v_iconst 1 C dL_law_759 (by decide) ?_
      refine v_iadd C dL_law_760 ?_
      refine v_sld (8 * c + 1) C hX hbl hbE (at_e (nI_add (8 * c) 1) (by omega) (by omega)) dL_law_761 ?_
      refine v_aloadS C dL_law_762 rfl ?_
      refine v_iload_n C dL_law_763 rfl ?_
      refine v_iconst 2 C dL_law_764 (by decide) ?_
      refine v_iadd C dL_law_765 ?_
      refine v_sld (8 * c + 2) C hX hbl hbE (at_e (nI_add (8 * c) 2) (by omega) (by omega)) dL_law_766 ?_
      refine v_aloadS C dL_law_767 rfl ?_
      refine v_iload_n C dL_law_768 rfl ?_
      refine v_iconst 3 C dL_law_769 (by decide) ?_
      refine v_iadd C dL_law_770 ?_
      refine v_sld (8 * c + 3) C hX hbl hbE (at_e (nI_add (8 * c) 3) (by omega) (by omega)) dL_law_771 ?_
      refine v_callV C (c_X10_shiftG (K := K) hs hn0 hn1 hu h.bl hKC w1 w2 w3) mt_X10_shift lk_RL_93 rfl rfl (hs.1 0 _ rfl) rfl rfl rfl (Nat.le_of_ble_eq_true rfl) (rm_law rfl (by omega) (by omega)) dL_law_772 ?_
      intro v sh1 I1 J1 R1 hQ
      have hQ1 := hQ
      obtain ⟨x, hx, e1, e2, e3, hB1, f1, _⟩ := hQ
      subst e1
      have hKM2 : KM I1 (sc (8 * c + 3)) K := fun k hk => by rw [f1 58 (by omega), f1 59 (by omega), f1 60 (by omega), f1 61 (by omega), f1 62 (by omega)]; exact hKM k hk
      have hs0 := h.st.grow
      have hw0 := WP.grow h.st
      rw [← e2, ← e3] at hs0
      have hs := hs0
      refine v_aload_n C dL_law_775 rfl ?_
      refine v_aloadS C dL_law_776 rfl ?_
      refine v_iload_n C dL_law_777 rfl ?_
      refine v_iconst 1 C dL_law_778 (by decide) ?_
      refine v_iadd C dL_law_779 ?_
      refine v_sld (8 * c + 1) C hX hbl hbE (at_e (nI_add (8 * c) 1) (by omega) (by omega)) dL_law_780 ?_
      refine v_eqi em ?_
      refine v_aloadS C dL_law_781 rfl ?_
      refine v_iload_n C dL_law_782 rfl ?_
      refine v_iconst 2 C dL_law_783 (by decide) ?_
      refine v_iadd C dL_law_784 ?_
      refine v_sld (8 * c + 2) C hX hbl hbE (at_e (nI_add (8 * c) 2) (by omega) (by omega)) dL_law_785 ?_
      refine v_eqi eg ?_
      refine v_aloadS C dL_law_786 rfl ?_
      refine v_iload_n C dL_law_787 rfl ?_
      refine v_iconst 3 C dL_law_788 (by decide) ?_
      refine v_iadd C dL_law_789 ?_
      refine v_sld (8 * c + 3) C hX hbl hbE (at_e (nI_add (8 * c) 3) (by omega) (by omega)) dL_law_790 ?_
      refine v_callV C (c_X11_shiftN (K := K) (M := ix (sc (8 * c + 1))) (G := ix (sc (8 * c + 2))) hs hKM2 lm lg w3) mt_X11_shift lk_RL_96 rfl rfl (hs.1 47 _ rfl) rfl rfl rfl (Nat.le_of_ble_eq_true rfl) (rm_law rfl (by omega) (by omega)) dL_law_791 ?_
      intro v2 sh2 I2 J2 R2 hQ2
      have hr := shift_rel (sh' := (sh ++ [.inr (1, 24531)] ++ [.inr (1, 24531)])) (R' := (ru (ru R 39 0 (some sh.length)) 39 1 (some (sh.length + 1)))) h hQ1 hQ2 h.st.grow (WP.grow h.st) (fun a y hy => sh_app (sh_app hy)) (fun a g1 g2 => by rw [ru_ne a (by omega), ru_ne a (by omega)])
      obtain ⟨ev, es, eR, hRel⟩ := hr
      subst ev
      rw [← es, ← eR] at hRel
      refine v_icmp_eq 977 C dL_law_794 (by decide) (fun h794 => ?_) (fun h794 => False.elim (h794 rfl))
      refine v_iinc (nI (8 * (c + 1))) C dL_law_977 rfl (inc8 c) (Nat.le_of_ble_eq_true rfl) rfl ?_
      refine v_goto 18 C dL_law_980 (by decide) ?_
      have hg2 : GF R2 1 := Or.inr ⟨rfl, by rw [eR, ru_k (by decide), ru_same]; exact fun z => by cases z⟩
      exact v_widen (by omega) (by omega) (next _ _ _ _ 1 hRel hg2)
    · have hZ : (∃ W N, R 39 0 = some W ∧ R 39 1 = some N ∧ W ≠ N ∧ 90 ≤ W ∧ 90 ≤ N ∧ sh[W]? = some (.inr (1, 24531)) ∧ sh[N]? = some (.inr (1, 24531))) ∨ ∀ U q, QP K q U 5 → U = 0 := by
        rcases h.wp with q | q
        · exact Or.inr (no_use (fun z => hq ⟨q.1, q.2, z⟩))
        · exact Or.inl q
      refine v_aload_n C dL_law_756 rfl ?_
      refine v_aloadS C dL_law_757 rfl ?_
      refine v_iload_n C dL_law_758 rfl ?_
      refine v_iconst 1 C dL_law_759 (by decide) ?_
      refine v_iadd C dL_law_760 ?_
      refine v_sld (8 * c + 1) C hX hbl hbE (at_e (nI_add (8 * c) 1) (by omega) (by omega)) dL_law_761 ?_
      refine v_aloadS C dL_law_762 rfl ?_
      refine v_iload_n C dL_law_763 rfl ?_
      refine v_iconst 2 C dL_law_764 (by decide) ?_
      refine v_iadd C dL_law_765 ?_
      refine v_sld (8 * c + 2) C hX hbl hbE (at_e (nI_add (8 * c) 2) (by omega) (by omega)) dL_law_766 ?_
      refine v_aloadS C dL_law_767 rfl ?_
      refine v_iload_n C dL_law_768 rfl ?_
      refine v_iconst 3 C dL_law_769 (by decide) ?_
      refine v_iadd C dL_law_770 ?_
      refine v_sld (8 * c + 3) C hX hbl hbE (at_e (nI_add (8 * c) 3) (by omega) (by omega)) dL_law_771 ?_
      refine v_callV C (c_X10_shiftZ (K := K) hs hZ h.bl hKC w1 w2 w3) mt_X10_shift lk_RL_93 rfl rfl (hs.1 0 _ rfl) rfl rfl rfl (Nat.le_of_ble_eq_true rfl) (rm_law rfl (by omega) (by omega)) dL_law_772 ?_
      intro v sh1 I1 J1 R1 hQ
      have hQ1 := hQ
      obtain ⟨x, hx, e1, e2, e3, hB1, f1, _⟩ := hQ
      subst e1
      have hKM2 : KM I1 (sc (8 * c + 3)) K := fun k hk => by rw [f1 58 (by omega), f1 59 (by omega), f1 60 (by omega), f1 61 (by omega), f1 62 (by omega)]; exact hKM k hk
      have hs := h.st
      rw [← e2, ← e3] at hs
      refine v_aload_n C dL_law_775 rfl ?_
      refine v_aloadS C dL_law_776 rfl ?_
      refine v_iload_n C dL_law_777 rfl ?_
      refine v_iconst 1 C dL_law_778 (by decide) ?_
      refine v_iadd C dL_law_779 ?_
      refine v_sld (8 * c + 1) C hX hbl hbE (at_e (nI_add (8 * c) 1) (by omega) (by omega)) dL_law_780 ?_
      refine v_eqi em ?_
      refine v_aloadS C dL_law_781 rfl ?_
      refine v_iload_n C dL_law_782 rfl ?_
      refine v_iconst 2 C dL_law_783 (by decide) ?_
      refine v_iadd C dL_law_784 ?_
      refine v_sld (8 * c + 2) C hX hbl hbE (at_e (nI_add (8 * c) 2) (by omega) (by omega)) dL_law_785 ?_
      refine v_eqi eg ?_
      refine v_aloadS C dL_law_786 rfl ?_
      refine v_iload_n C dL_law_787 rfl ?_
      refine v_iconst 3 C dL_law_788 (by decide) ?_
      refine v_iadd C dL_law_789 ?_
      refine v_sld (8 * c + 3) C hX hbl hbE (at_e (nI_add (8 * c) 3) (by omega) (by omega)) dL_law_790 ?_
      refine v_callV C (c_X11_shiftN (K := K) (M := ix (sc (8 * c + 1))) (G := ix (sc (8 * c + 2))) hs hKM2 lm lg w3) mt_X11_shift lk_RL_96 rfl rfl (hs.1 47 _ rfl) rfl rfl rfl (Nat.le_of_ble_eq_true rfl) (rm_law rfl (by omega) (by omega)) dL_law_791 ?_
      intro v2 sh2 I2 J2 R2 hQ2
      have hr := shift_rel (sh' := sh) (R' := R) h hQ1 hQ2 h.st h.wp (fun a y hy => hy) (fun a _ _ => rfl)
      obtain ⟨ev, es, eR, hRel⟩ := hr
      subst ev
      rw [← es, ← eR] at hRel
      refine v_icmp_eq 977 C dL_law_794 (by decide) (fun h794 => ?_) (fun h794 => False.elim (h794 rfl))
      refine v_iinc (nI (8 * (c + 1))) C dL_law_977 rfl (inc8 c) (Nat.le_of_ble_eq_true rfl) rfl ?_
      refine v_goto 18 C dL_law_980 (by decide) ?_
      have hg2 : GF R2 g := by rw [eR]; exact hg
      exact v_widen (by omega) (by omega) (next _ _ _ _ g hRel hg2)

set_option maxHeartbeats 4000000 in
set_option maxRecDepth 100000 in
theorem lc_shifted {E : En} {X : Ctx} {nm : String} {Z : State → Prop} {b L c g : Nat} {sc : Nat → Int32} {sh : List Sh} {I : IM} {J : JM} {R : RM} (C : Cx E X RL code 4 ret nm room_1) (hX : va_X b L sc (xs X) (xs X).heap) (hbl : b < (xs X).heap.size) (hbE : b < e_b E) (h : Rel sh I J R c) (hg : GF R g) (hcL : 8 * c + 8 ≤ L) (hL : L ≤ 4096) (next : NX E X Z b c) : V E X Z (90 + 2 * g + c) (1457153 + 9 * c + 49062 * g) sh I J R 799 [some (.retAddr b), some (.ref 0), some (.ref 47), some (.int (nI (8 * c)))] [] := by
  have hs := h.st
  have hg1 := hg.le
  refine v_aload_n C dL_law_799 rfl ?_
  refine v_aloadS C dL_law_800 rfl ?_
  refine v_iload_n C dL_law_801 rfl ?_
  refine v_iconst 1 C dL_law_802 (by decide) ?_
  refine v_iadd C dL_law_803 ?_
  refine v_sld (8 * c + 1) C hX hbl hbE (at_e (nI_add (8 * c) 1) (by omega) (by omega)) dL_law_804 ?_
  refine v_callLi C (c_X10_shifted hs) mt_X10_shifted lk_RL_97 rfl rfl (hs.1 0 _ rfl) rfl rfl rfl rfl (rm_law rfl (by omega) (by omega)) dL_law_805 ?_
  refine v_aload_n C dL_law_808 rfl ?_
  refine v_aloadS C dL_law_809 rfl ?_
  refine v_iload_n C dL_law_810 rfl ?_
  refine v_iconst 1 C dL_law_811 (by decide) ?_
  refine v_iadd C dL_law_812 ?_
  refine v_sld (8 * c + 1) C hX hbl hbE (at_e (nI_add (8 * c) 1) (by omega) (by omega)) dL_law_813 ?_
  refine v_callLi C (c_X11_shifted hs) mt_X11_shifted lk_RL_100 rfl rfl (hs.1 47 _ rfl) rfl rfl rfl rfl (rm_law rfl (by omega) (by omega)) dL_law_814 ?_
  refine v_icmp_eq 977 C dL_law_817 (by decide) (fun h817 => ?_) (fun h817 => False.elim (h817 (r_shifted h.shf (sc (8 * c + 1))).symm))
  refine v_iinc (nI (8 * (c + 1))) C dL_law_977 rfl (inc8 c) (Nat.le_of_ble_eq_true rfl) rfl ?_
  refine v_goto 18 C dL_law_980 (by decide) ?_
  exact v_widen (by omega) (by omega) (next _ _ _ _ g (h.mono) hg)

set_option maxHeartbeats 4000000 in
set_option maxRecDepth 100000 in
theorem lc_cost {E : En} {X : Ctx} {nm : String} {Z : State → Prop} {b L c g : Nat} {sc : Nat → Int32} {sh : List Sh} {I : IM} {J : JM} {R : RM} (C : Cx E X RL code 4 ret nm room_1) (hX : va_X b L sc (xs X) (xs X).heap) (hbl : b < (xs X).heap.size) (hbE : b < e_b E) (h : Rel sh I J R c) (hg : GF R g) (hcL : 8 * c + 8 ≤ L) (hL : L ≤ 4096) (next : NX E X Z b c) : V E X Z (90 + 2 * g + c) (1457153 + 9 * c + 49062 * g) sh I J R 822 [some (.retAddr b), some (.ref 0), some (.ref 47), some (.int (nI (8 * c)))] [] := by
  have hs := h.st
  have hg1 := hg.le
  refine v_aload_n C dL_law_822 rfl ?_
  refine v_aloadS C dL_law_823 rfl ?_
  refine v_iload_n C dL_law_824 rfl ?_
  refine v_iconst 1 C dL_law_825 (by decide) ?_
  refine v_iadd C dL_law_826 ?_
  refine v_sld (8 * c + 1) C hX hbl hbE (at_e (nI_add (8 * c) 1) (by omega) (by omega)) dL_law_827 ?_
  refine v_aloadS C dL_law_828 rfl ?_
  refine v_iload_n C dL_law_829 rfl ?_
  refine v_iconst 2 C dL_law_830 (by decide) ?_
  refine v_iadd C dL_law_831 ?_
  refine v_sld (8 * c + 2) C hX hbl hbE (at_e (nI_add (8 * c) 2) (by omega) (by omega)) dL_law_832 ?_
  refine v_aloadS C dL_law_833 rfl ?_
  refine v_iload_n C dL_law_834 rfl ?_
  refine v_iconst 3 C dL_law_835 (by decide) ?_
  refine v_iadd C dL_law_836 ?_
  refine v_sld (8 * c + 3) C hX hbl hbE (at_e (nI_add (8 * c) 3) (by omega) (by omega)) dL_law_837 ?_
  refine v_callLi C (c_X10_cost hs) mt_X10_cost lk_RL_101 rfl rfl (hs.1 0 _ rfl) rfl rfl rfl rfl (rm_law rfl (by omega) (by omega)) dL_law_838 ?_
  refine v_aload_n C dL_law_841 rfl ?_
  refine v_aloadS C dL_law_842 rfl ?_
  refine v_iload_n C dL_law_843 rfl ?_
  refine v_iconst 1 C dL_law_844 (by decide) ?_
  refine v_iadd C dL_law_845 ?_
  refine v_sld (8 * c + 1) C hX hbl hbE (at_e (nI_add (8 * c) 1) (by omega) (by omega)) dL_law_846 ?_
  refine v_aloadS C dL_law_847 rfl ?_
  refine v_iload_n C dL_law_848 rfl ?_
  refine v_iconst 2 C dL_law_849 (by decide) ?_
  refine v_iadd C dL_law_850 ?_
  refine v_sld (8 * c + 2) C hX hbl hbE (at_e (nI_add (8 * c) 2) (by omega) (by omega)) dL_law_851 ?_
  refine v_aloadS C dL_law_852 rfl ?_
  refine v_iload_n C dL_law_853 rfl ?_
  refine v_iconst 3 C dL_law_854 (by decide) ?_
  refine v_iadd C dL_law_855 ?_
  refine v_sld (8 * c + 3) C hX hbl hbE (at_e (nI_add (8 * c) 3) (by omega) (by omega)) dL_law_856 ?_
  refine v_callLi C (c_X11_cost hs) mt_X11_cost lk_RL_104 rfl rfl (hs.1 47 _ rfl) rfl rfl rfl rfl (rm_law rfl (by omega) (by omega)) dL_law_857 ?_
  refine v_icmp_eq 977 C dL_law_860 (by decide) (fun h860 => ?_) (fun h860 => False.elim (h860 (r_cost h (sc (8 * c + 1)) (sc (8 * c + 2)) (sc (8 * c + 3))).1.symm))
  refine v_iinc (nI (8 * (c + 1))) C dL_law_977 rfl (inc8 c) (Nat.le_of_ble_eq_true rfl) rfl ?_
  refine v_goto 18 C dL_law_980 (by decide) ?_
  exact v_widen (by omega) (by omega) (next _ _ _ _ g (r_cost h (sc (8 * c + 1)) (sc (8 * c + 2)) (sc (8 * c + 3))).2 hg)

set_option maxHeartbeats 4000000 in
set_option maxRecDepth 100000 in
theorem lc_way {E : En} {X : Ctx} {nm : String} {Z : State → Prop} {b L c g : Nat} {sc : Nat → Int32} {sh : List Sh} {I : IM} {J : JM} {R : RM} (C : Cx E X RL code 4 ret nm room_1) (hX : va_X b L sc (xs X) (xs X).heap) (hbl : b < (xs X).heap.size) (hbE : b < e_b E) (h : Rel sh I J R c) (hg : GF R g) (hcL : 8 * c + 8 ≤ L) (hL : L ≤ 4096) (next : NX E X Z b c) : V E X Z (90 + 2 * g + c) (1457153 + 9 * c + 49062 * g) sh I J R 865 [some (.retAddr b), some (.ref 0), some (.ref 47), some (.int (nI (8 * c)))] [] := by
  have hs := h.st
  have hg1 := hg.le
  refine v_aload_n C dL_law_865 rfl ?_
  refine v_aloadS C dL_law_866 rfl ?_
  refine v_iload_n C dL_law_867 rfl ?_
  refine v_iconst 1 C dL_law_868 (by decide) ?_
  refine v_iadd C dL_law_869 ?_
  refine v_sld (8 * c + 1) C hX hbl hbE (at_e (nI_add (8 * c) 1) (by omega) (by omega)) dL_law_870 ?_
  refine v_aloadS C dL_law_871 rfl ?_
  refine v_iload_n C dL_law_872 rfl ?_
  refine v_iconst 2 C dL_law_873 (by decide) ?_
  refine v_iadd C dL_law_874 ?_
  refine v_sld (8 * c + 2) C hX hbl hbE (at_e (nI_add (8 * c) 2) (by omega) (by omega)) dL_law_875 ?_
  refine v_aloadS C dL_law_876 rfl ?_
  refine v_iload_n C dL_law_877 rfl ?_
  refine v_iconst 3 C dL_law_878 (by decide) ?_
  refine v_iadd C dL_law_879 ?_
  refine v_sld (8 * c + 3) C hX hbl hbE (at_e (nI_add (8 * c) 3) (by omega) (by omega)) dL_law_880 ?_
  refine v_callLi C (c_X10_way hs) mt_X10_way lk_RL_105 rfl rfl (hs.1 0 _ rfl) rfl rfl rfl rfl (rm_law rfl (by omega) (by omega)) dL_law_881 ?_
  refine v_aload_n C dL_law_884 rfl ?_
  refine v_aloadS C dL_law_885 rfl ?_
  refine v_iload_n C dL_law_886 rfl ?_
  refine v_iconst 1 C dL_law_887 (by decide) ?_
  refine v_iadd C dL_law_888 ?_
  refine v_sld (8 * c + 1) C hX hbl hbE (at_e (nI_add (8 * c) 1) (by omega) (by omega)) dL_law_889 ?_
  refine v_aloadS C dL_law_890 rfl ?_
  refine v_iload_n C dL_law_891 rfl ?_
  refine v_iconst 2 C dL_law_892 (by decide) ?_
  refine v_iadd C dL_law_893 ?_
  refine v_sld (8 * c + 2) C hX hbl hbE (at_e (nI_add (8 * c) 2) (by omega) (by omega)) dL_law_894 ?_
  refine v_aloadS C dL_law_895 rfl ?_
  refine v_iload_n C dL_law_896 rfl ?_
  refine v_iconst 3 C dL_law_897 (by decide) ?_
  refine v_iadd C dL_law_898 ?_
  refine v_sld (8 * c + 3) C hX hbl hbE (at_e (nI_add (8 * c) 3) (by omega) (by omega)) dL_law_899 ?_
  refine v_callLi C (c_X11_way hs) mt_X11_way lk_RL_108 rfl rfl (hs.1 47 _ rfl) rfl rfl rfl rfl (rm_law rfl (by omega) (by omega)) dL_law_900 ?_
  refine v_icmp_eq 977 C dL_law_903 (by decide) (fun h903 => ?_) (fun h903 => False.elim (h903 (r_way h (sc (8 * c + 1)) (sc (8 * c + 2)) (sc (8 * c + 3))).1.symm))
  refine v_iinc (nI (8 * (c + 1))) C dL_law_977 rfl (inc8 c) (Nat.le_of_ble_eq_true rfl) rfl ?_
  refine v_goto 18 C dL_law_980 (by decide) ?_
  exact v_widen (by omega) (by omega) (next _ _ _ _ g (r_way h (sc (8 * c + 1)) (sc (8 * c + 2)) (sc (8 * c + 3))).2 hg)

set_option maxHeartbeats 4000000 in
set_option maxRecDepth 100000 in
theorem lc_move {E : En} {X : Ctx} {nm : String} {Z : State → Prop} {b L c g : Nat} {sc : Nat → Int32} {sh : List Sh} {I : IM} {J : JM} {R : RM} (C : Cx E X RL code 4 ret nm room_1) (hX : va_X b L sc (xs X) (xs X).heap) (hbl : b < (xs X).heap.size) (hbE : b < e_b E) (h : Rel sh I J R c) (hg : GF R g) (hcL : 8 * c + 8 ≤ L) (hL : L ≤ 4096) (next : NX E X Z b c) : V E X Z (90 + 2 * g + c) (1457153 + 9 * c + 49062 * g) sh I J R 908 [some (.retAddr b), some (.ref 0), some (.ref 47), some (.int (nI (8 * c)))] [] := by
  have hs := h.st
  have hg1 := hg.le
  refine v_aload_n C dL_law_908 rfl ?_
  refine v_aloadS C dL_law_909 rfl ?_
  refine v_iload_n C dL_law_910 rfl ?_
  refine v_iconst 1 C dL_law_911 (by decide) ?_
  refine v_iadd C dL_law_912 ?_
  refine v_sld (8 * c + 1) C hX hbl hbE (at_e (nI_add (8 * c) 1) (by omega) (by omega)) dL_law_913 ?_
  refine v_callLi C (c_X10_move hs (h.sc.2.1.at (n := 5) (by decide) (by decide)).1) mt_X10_move lk_RL_109 rfl rfl (hs.1 0 _ rfl) rfl rfl rfl rfl (rm_law rfl (by omega) (by omega)) dL_law_914 ?_
  refine v_aload_n C dL_law_917 rfl ?_
  refine v_aloadS C dL_law_918 rfl ?_
  refine v_iload_n C dL_law_919 rfl ?_
  refine v_iconst 1 C dL_law_920 (by decide) ?_
  refine v_iadd C dL_law_921 ?_
  refine v_sld (8 * c + 1) C hX hbl hbE (at_e (nI_add (8 * c) 1) (by omega) (by omega)) dL_law_922 ?_
  refine v_callLi C (c_X11_move hs (by rw [moveI_48]; exact (h.sc.2.1.at (n := 5) (by decide) (by decide)).2)) mt_X11_move lk_RL_112 rfl rfl (hs.1 47 _ rfl) rfl rfl rfl rfl (rm_law rfl (by omega) (by omega)) dL_law_923 ?_
  refine v_icmp_eq 977 C dL_law_926 (by decide) (fun h926 => ?_) (fun h926 => False.elim (h926 (r_move h (sc (8 * c + 1))).1.symm))
  refine v_iinc (nI (8 * (c + 1))) C dL_law_977 rfl (inc8 c) (Nat.le_of_ble_eq_true rfl) rfl ?_
  refine v_goto 18 C dL_law_980 (by decide) ?_
  exact v_widen (by omega) (by omega) (next _ _ _ _ g (r_move h (sc (8 * c + 1))).2 hg)

set_option maxHeartbeats 4000000 in
set_option maxRecDepth 100000 in
theorem lc_moved {E : En} {X : Ctx} {nm : String} {Z : State → Prop} {b L c g : Nat} {sc : Nat → Int32} {sh : List Sh} {I : IM} {J : JM} {R : RM} (C : Cx E X RL code 4 ret nm room_1) (hX : va_X b L sc (xs X) (xs X).heap) (hbl : b < (xs X).heap.size) (hbE : b < e_b E) (h : Rel sh I J R c) (hg : GF R g) (hcL : 8 * c + 8 ≤ L) (hL : L ≤ 4096) (next : NX E X Z b c) : V E X Z (90 + 2 * g + c) (1457153 + 9 * c + 49062 * g) sh I J R 931 [some (.retAddr b), some (.ref 0), some (.ref 47), some (.int (nI (8 * c)))] [] := by
  have hs := h.st
  have hg1 := hg.le
  refine v_aload_n C dL_law_931 rfl ?_
  refine v_aloadS C dL_law_932 rfl ?_
  refine v_iload_n C dL_law_933 rfl ?_
  refine v_iconst 1 C dL_law_934 (by decide) ?_
  refine v_iadd C dL_law_935 ?_
  refine v_sld (8 * c + 1) C hX hbl hbE (at_e (nI_add (8 * c) 1) (by omega) (by omega)) dL_law_936 ?_
  refine v_callLi C (c_X10_moved hs (fun hw => moved_at (n := 0) h.mv.2.2.1 hw)) mt_X10_moved lk_RL_113 rfl rfl (hs.1 0 _ rfl) rfl rfl rfl rfl (rm_law rfl (by omega) (by omega)) dL_law_937 ?_
  refine v_aload_n C dL_law_940 rfl ?_
  refine v_aloadS C dL_law_941 rfl ?_
  refine v_iload_n C dL_law_942 rfl ?_
  refine v_iconst 1 C dL_law_943 (by decide) ?_
  refine v_iadd C dL_law_944 ?_
  refine v_sld (8 * c + 1) C hX hbl hbE (at_e (nI_add (8 * c) 1) (by omega) (by omega)) dL_law_945 ?_
  refine v_callLi C (c_X11_moved hs (fun hw => moved_at (n := 0) h.mv.2.2.1 (by rw [← h.mv.2.2.1.eq]; exact hw))) mt_X11_moved lk_RL_116 rfl rfl (hs.1 47 _ rfl) rfl rfl rfl rfl (rm_law rfl (by omega) (by omega)) dL_law_946 ?_
  refine v_icmp_eq 977 C dL_law_949 (by decide) (fun h949 => ?_) (fun h949 => False.elim (h949 (r_moved h.mv (sc (8 * c + 1))).symm))
  refine v_iinc (nI (8 * (c + 1))) C dL_law_977 rfl (inc8 c) (Nat.le_of_ble_eq_true rfl) rfl ?_
  refine v_goto 18 C dL_law_980 (by decide) ?_
  exact v_widen (by omega) (by omega) (next _ _ _ _ g (h.mono) hg)

set_option maxHeartbeats 4000000 in
set_option maxRecDepth 100000 in
theorem lc_count {E : En} {X : Ctx} {nm : String} {Z : State → Prop} {b L c g : Nat} {sc : Nat → Int32} {sh : List Sh} {I : IM} {J : JM} {R : RM} (C : Cx E X RL code 4 ret nm room_1) (hX : va_X b L sc (xs X) (xs X).heap) (hbl : b < (xs X).heap.size) (hbE : b < e_b E) (h : Rel sh I J R c) (hg : GF R g) (hcL : 8 * c + 8 ≤ L) (hL : L ≤ 4096) (next : NX E X Z b c) : V E X Z (90 + 2 * g + c) (1457153 + 9 * c + 49062 * g) sh I J R 954 [some (.retAddr b), some (.ref 0), some (.ref 47), some (.int (nI (8 * c)))] [] := by
  have hs := h.st
  have hg1 := hg.le
  refine v_aload_n C dL_law_954 rfl ?_
  refine v_aloadS C dL_law_955 rfl ?_
  refine v_iload_n C dL_law_956 rfl ?_
  refine v_iconst 1 C dL_law_957 (by decide) ?_
  refine v_iadd C dL_law_958 ?_
  refine v_sld (8 * c + 1) C hX hbl hbE (at_e (nI_add (8 * c) 1) (by omega) (by omega)) dL_law_959 ?_
  refine v_callLi C (c_X10_count hs (h.sc.2.1.at (n := 5) (by decide) (by decide)).1) mt_X10_count lk_RL_117 rfl rfl (hs.1 0 _ rfl) rfl rfl rfl rfl (rm_law rfl (by omega) (by omega)) dL_law_960 ?_
  refine v_aload_n C dL_law_963 rfl ?_
  refine v_aloadS C dL_law_964 rfl ?_
  refine v_iload_n C dL_law_965 rfl ?_
  refine v_iconst 1 C dL_law_966 (by decide) ?_
  refine v_iadd C dL_law_967 ?_
  refine v_sld (8 * c + 1) C hX hbl hbE (at_e (nI_add (8 * c) 1) (by omega) (by omega)) dL_law_968 ?_
  refine v_callLi C (c_X11_count hs (h.sc.2.1.at (n := 5) (by decide) (by decide)).2) mt_X11_count lk_RL_120 rfl rfl (hs.1 47 _ rfl) rfl rfl rfl rfl (rm_law rfl (by omega) (by omega)) dL_law_969 ?_
  refine v_icmp_eq 977 C dL_law_972 (by decide) (fun h972 => ?_) (fun h972 => False.elim (h972 (r_count h (sc (8 * c + 1))).symm))
  refine v_iinc (nI (8 * (c + 1))) C dL_law_977 rfl (inc8 c) (Nat.le_of_ble_eq_true rfl) rfl ?_
  refine v_goto 18 C dL_law_980 (by decide) ?_
  exact v_widen (by omega) (by omega) (next _ _ _ _ g (h.mono) hg)
