set_option maxHeartbeats 4000000 in
set_option maxRecDepth 100000 in
theorem c_X11_hour {lnc : Launch} {E : En} {sh : List Sh} {I : IM} {J : JM} {R : RM} {n np : Nat} (hs : St sh R) (hn : I 47 8 = nI n) (hl : n ≤ 20) (hp : I 47 27 = nI np) (hpl : np ≤ 1000) (hb : BayM np 0 I) : Ct lnc E yX11_hour cX11_hour 4 none 1 21 [.ref 47] sh I J R 0 0 (m_ret none sh (hourM n np I) J R) := by
  refine Ct.of (lv := [some (.ref 47), none, none, none]) (by decide) (Nat.le_of_ble_eq_true rfl) rfl (fun X hX C => ?_)
  have cold : ∀ (fuel : Nat) (m q : Nat) (c b : Int32) (Ib : IM), m < fuel → q + m = n → Ib 47 8 = nI n → V E X (m_Z E X (m_ret none sh (hourM n np I) J R) 0 0) 0 0 sh Ib J R 90 [some (.ref 47), some (.int b), some (.int (coF (Ib 50) (Ib 51) (Ib 52) (Ib 47 0) m q c)), none] [] → V E X (m_Z E X (m_ret none sh (hourM n np I) J R) 0 0) 0 0 sh Ib J R 37 [some (.ref 47), some (.int b), some (.int c), some (.int (nI q))] [] := by
    intro fuel
    induction fuel with
    | zero => intro m q c b Ib hfuel; exact absurd hfuel (Nat.not_lt_zero _)
    | succ fuel ih =>
      intro m q c b Ib hfuel hk hi hx
      refine v_iload_n C dX11_hour_37 rfl ?_
      refine v_aload_n C dX11_hour_38 rfl ?_
      refine v_getI C fl_RX11_157 rfl (hs.1 47 _ rfl) dX11_hour_39 ?_
      rw [hi]
      refine v_icmp_ge 90 C dX11_hour_42 (by decide) (fun h42 => ?_) (fun h42 => ?_)
      · have hqn := nI_le_of h42 (by omega) (by omega)
        obtain rfl : m = 0 := by omega
        exact v_drop 3 hx
      · have hqn := nI_lt_of h42 (by omega)
        obtain ⟨m, rfl⟩ : ∃ m2, m = m2 + 1 := ⟨m - 1, by omega⟩
        refine v_iload_n C dX11_hour_45 rfl ?_
        refine v_aload_n C dX11_hour_46 rfl ?_
        refine v_getR 50 C fl_RX11_16 rfl (hs.1 47 _ rfl) (hs.2 47 9 50 rfl) dX11_hour_47 ?_
        refine v_iload_n C dX11_hour_50 rfl ?_
        refine v_iaload q C (hs.1 50 _ rfl) (at_e rfl (by omega) (by decide)) dX11_hour_51 ?_
        refine v_aload_n C dX11_hour_52 rfl ?_
        refine v_getI C fl_RX11_144 rfl (hs.1 47 _ rfl) dX11_hour_53 ?_
        refine v_icmp_gt 81 C dX11_hour_56 (by decide) (fun h56 => ?_) (fun h56 => ?_)
        · refine v_iconst 0 C dX11_hour_81 (by decide) ?_
          refine v_iadd C dX11_hour_82 ?_
          refine v_istore_n C dX11_hour_83 (Nat.le_of_ble_eq_true rfl) rfl ?_
          refine v_iinc (nI (q + 1)) C dX11_hour_84 rfl (nI_1 q) (Nat.le_of_ble_eq_true rfl) rfl ?_
          refine v_goto 37 C dX11_hour_87 (by decide) ?_
          exact ih m (q + 1) _ b Ib (lt_fuel hfuel) (by omega) hi (by first | (simpa [coF, wI, h56, h69, Int32.add_zero] using hx) | (simpa [coF, wI, h56, Int32.add_zero] using hx))
        · refine v_aload_n C dX11_hour_59 rfl ?_
          refine v_getR 51 C fl_RX11_19 rfl (hs.1 47 _ rfl) (hs.2 47 10 51 rfl) dX11_hour_60 ?_
          refine v_iload_n C dX11_hour_63 rfl ?_
          refine v_iaload q C (hs.1 51 _ rfl) (at_e rfl (by omega) (by decide)) dX11_hour_64 ?_
          refine v_aload_n C dX11_hour_65 rfl ?_
          refine v_getI C fl_RX11_144 rfl (hs.1 47 _ rfl) dX11_hour_66 ?_
          refine v_icmp_lt 81 C dX11_hour_69 (by decide) (fun h69 => ?_) (fun h69 => ?_)
          · refine v_iconst 0 C dX11_hour_81 (by decide) ?_
            refine v_iadd C dX11_hour_82 ?_
            refine v_istore_n C dX11_hour_83 (Nat.le_of_ble_eq_true rfl) rfl ?_
            refine v_iinc (nI (q + 1)) C dX11_hour_84 rfl (nI_1 q) (Nat.le_of_ble_eq_true rfl) rfl ?_
            refine v_goto 37 C dX11_hour_87 (by decide) ?_
            exact ih m (q + 1) _ b Ib (lt_fuel hfuel) (by omega) hi (by first | (simpa [coF, wI, h56, h69, Int32.add_zero] using hx) | (simpa [coF, wI, h56, Int32.add_zero] using hx))
          · refine v_aload_n C dX11_hour_72 rfl ?_
            refine v_getR 52 C fl_RX11_22 rfl (hs.1 47 _ rfl) (hs.2 47 11 52 rfl) dX11_hour_73 ?_
            refine v_iload_n C dX11_hour_76 rfl ?_
            refine v_iaload q C (hs.1 52 _ rfl) (at_e rfl (by omega) (by decide)) dX11_hour_77 ?_
            refine v_goto 82 C dX11_hour_78 (by decide) ?_
            refine v_iadd C dX11_hour_82 ?_
            refine v_istore_n C dX11_hour_83 (Nat.le_of_ble_eq_true rfl) rfl ?_
            refine v_iinc (nI (q + 1)) C dX11_hour_84 rfl (nI_1 q) (Nat.le_of_ble_eq_true rfl) rfl ?_
            refine v_goto 37 C dX11_hour_87 (by decide) ?_
            exact ih m (q + 1) _ b Ib (lt_fuel hfuel) (by omega) hi (by first | (simpa [coF, wI, h56, h69, Int32.add_zero] using hx) | (simpa [coF, wI, h56, Int32.add_zero] using hx))
  have pot1 : ∀ (q : Nat) (x : Int32) (Ib : IM), At x 6 q → V E X (m_Z E X (m_ret none sh (hourM n np I) J R) 0 0) 0 0 sh (potM Ib q) J R 251 [some (.ref 47), none, none, some (.int x)] [] → V E X (m_Z E X (m_ret none sh (hourM n np I) J R) 0 0) 0 0 sh Ib J R 156 [some (.ref 47), none, none, some (.int x)] [] := by
    intro q x Ib hq hx
    refine v_aload_n C dX11_hour_156 rfl ?_
    refine v_getR 53 C fl_RX11_25 rfl (hs.1 47 _ rfl) (hs.2 47 13 53 rfl) dX11_hour_157 ?_
    refine v_iload_n C dX11_hour_160 rfl ?_
    refine v_iaload q C (hs.1 53 _ rfl) hq dX11_hour_161 ?_
    refine v_if_ge 168 C dX11_hour_162 (by decide) (fun h162 => ?_) (fun h162 => ?_)
    · refine v_aload_n C dX11_hour_168 rfl ?_
      refine v_getI C fl_RX11_160 rfl (hs.1 47 _ rfl) dX11_hour_169 ?_
      refine v_sipush 1300 C dX11_hour_172 (by decide) ?_
      refine v_icmp_lt 191 C dX11_hour_175 (by decide) (fun h175 => ?_) (fun h175 => ?_)
      · refine v_aload_n C dX11_hour_191 rfl ?_
        refine v_getI C fl_RX11_160 rfl (hs.1 47 _ rfl) dX11_hour_192 ?_
        refine v_sipush 1100 C dX11_hour_195 (by decide) ?_
        refine v_icmp_lt 214 C dX11_hour_198 (by decide) (fun h198 => ?_) (fun h198 => ?_)
        · refine v_aload_n C dX11_hour_214 rfl ?_
          refine v_getI C fl_RX11_160 rfl (hs.1 47 _ rfl) dX11_hour_215 ?_
          refine v_sipush 800 C dX11_hour_218 (by decide) ?_
          refine v_icmp_ge 251 C dX11_hour_221 (by decide) (fun h221 => ?_) (fun h221 => ?_)
          · refine v_eqI (show _ = potM Ib q from ?_) hx
            first | (simp [potM, meltM, iu_self, *]; done) | (have h162 : ¬ 0 ≤ Ib 53 q := h162; simp [potM, meltM, iu_self, h162]; done)
          · refine v_aload_n C dX11_hour_224 rfl ?_
            refine v_iload_n C dX11_hour_225 rfl ?_
            refine v_callVi C (c_X11_isReady hs hq) mt_X11_isReady lk_RX11_217 rfl rfl (hs.1 47 _ rfl) rfl rfl rfl rfl rfl dX11_hour_226 ?_
            refine v_if_ne 251 C dX11_hour_229 (by decide) (fun h229 => ?_) (fun h229 => ?_)
            · refine v_eqI (show _ = potM Ib q from ?_) hx
              first | (simp [potM, meltM, iu_self, *]; done) | (have h162 : ¬ 0 ≤ Ib 53 q := h162; simp [potM, meltM, iu_self, h162]; done)
            · refine v_aload_n C dX11_hour_232 rfl ?_
              refine v_getR 55 C fl_RX11_31 rfl (hs.1 47 _ rfl) (hs.2 47 15 55 rfl) dX11_hour_233 ?_
              refine v_iload_n C dX11_hour_236 rfl ?_
              refine v_iaload q C (hs.1 55 _ rfl) hq dX11_hour_237 ?_
              refine v_if_le 251 C dX11_hour_238 (by decide) (fun h238 => ?_) (fun h238 => ?_)
              · refine v_eqI (show _ = potM Ib q from ?_) hx
                first | (simp [potM, meltM, iu_self, *]; done) | (have h162 : ¬ 0 ≤ Ib 53 q := h162; simp [potM, meltM, iu_self, h162]; done)
              · refine v_aload_n C dX11_hour_241 rfl ?_
                refine v_getR 55 C fl_RX11_31 rfl (hs.1 47 _ rfl) (hs.2 47 15 55 rfl) dX11_hour_242 ?_
                refine v_iload_n C dX11_hour_245 rfl ?_
                refine v_dup2ir C dX11_hour_246 ?_
                refine v_iaload q C (hs.1 55 _ rfl) hq dX11_hour_247 ?_
                refine v_iconst 1 C dX11_hour_248 (by decide) ?_
                refine v_isub C dX11_hour_249 ?_
                refine v_iastore q C (hs.1 55 _ rfl) hq dX11_hour_250 ?_
                refine v_eqI (show _ = potM Ib q from ?_) hx
                first | (simp [potM, meltM, iu_self, *]; done) | (have h162 : ¬ 0 ≤ Ib 53 q := h162; simp [potM, meltM, iu_self, h162]; done)
        · refine v_aload_n C dX11_hour_201 rfl ?_
          refine v_getR 55 C fl_RX11_31 rfl (hs.1 47 _ rfl) (hs.2 47 15 55 rfl) dX11_hour_202 ?_
          refine v_iload_n C dX11_hour_205 rfl ?_
          refine v_dup2ir C dX11_hour_206 ?_
          refine v_iaload q C (hs.1 55 _ rfl) hq dX11_hour_207 ?_
          refine v_iconst 2 C dX11_hour_208 (by decide) ?_
          refine v_iadd C dX11_hour_209 ?_
          refine v_iastore q C (hs.1 55 _ rfl) hq dX11_hour_210 ?_
          refine v_goto 251 C dX11_hour_211 (by decide) ?_
          refine v_eqI (show _ = potM Ib q from ?_) hx
          first | (simp [potM, meltM, iu_self, *]; done) | (have h162 : ¬ 0 ≤ Ib 53 q := h162; simp [potM, meltM, iu_self, h162]; done)
      · refine v_aload_n C dX11_hour_178 rfl ?_
        refine v_getR 55 C fl_RX11_31 rfl (hs.1 47 _ rfl) (hs.2 47 15 55 rfl) dX11_hour_179 ?_
        refine v_iload_n C dX11_hour_182 rfl ?_
        refine v_dup2ir C dX11_hour_183 ?_
        refine v_iaload q C (hs.1 55 _ rfl) hq dX11_hour_184 ?_
        refine v_iconst 3 C dX11_hour_185 (by decide) ?_
        refine v_iadd C dX11_hour_186 ?_
        refine v_iastore q C (hs.1 55 _ rfl) hq dX11_hour_187 ?_
        refine v_goto 251 C dX11_hour_188 (by decide) ?_
        refine v_eqI (show _ = potM Ib q from ?_) hx
        first | (simp [potM, meltM, iu_self, *]; done) | (have h162 : ¬ 0 ≤ Ib 53 q := h162; simp [potM, meltM, iu_self, h162]; done)
    · refine v_goto 251 C dX11_hour_165 (by decide) ?_
      refine v_eqI (show _ = potM Ib q from ?_) hx
      first | (simp [potM, meltM, iu_self, *]; done) | (have h162 : ¬ 0 ≤ Ib 53 q := h162; simp [potM, meltM, iu_self, h162]; done)
  have pieces : ∀ (fuel : Nat) (m q : Nat) (Ib : IM), m < fuel → q + m = np → Ib 47 27 = nI np → BayM np q Ib → V E X (m_Z E X (m_ret none sh (hourM n np I) J R) 0 0) 0 0 sh (coolM m q Ib) J R 335 [some (.ref 47), none, none, none] [] → V E X (m_Z E X (m_ret none sh (hourM n np I) J R) 0 0) 0 0 sh Ib J R 259 [some (.ref 47), none, none, some (.int (nI q))] [] := by
    intro fuel
    induction fuel with
    | zero => intro m q Ib hfuel; exact absurd hfuel (Nat.not_lt_zero _)
    | succ fuel ih =>
      intro m q Ib hfuel hk hi hb hx
      refine v_iload_n C dX11_hour_259 rfl ?_
      refine v_aload_n C dX11_hour_260 rfl ?_
      refine v_getI C fl_RX11_223 rfl (hs.1 47 _ rfl) dX11_hour_261 ?_
      rw [hi]
      refine v_icmp_ge 335 C dX11_hour_264 (by decide) (fun h264 => ?_) (fun h264 => ?_)
      · have hqn := nI_le_of h264 (by omega) (by omega)
        obtain rfl : m = 0 := by omega
        exact v_drop 3 hx
      · have hqn := nI_lt_of h264 (by omega)
        obtain ⟨m, rfl⟩ : ∃ m2, m = m2 + 1 := ⟨m - 1, by omega⟩
        have hbq := hb q (Nat.le_refl q) hqn
        refine v_aload_n C dX11_hour_267 rfl ?_
        refine v_getR 71 C fl_RX11_80 rfl (hs.1 47 _ rfl) (hs.2 47 32 71 rfl) dX11_hour_268 ?_
        refine v_iload_n C dX11_hour_271 rfl ?_
        refine v_iaload q C (hs.1 71 _ rfl) (at_nI (by omega) (by decide)) dX11_hour_272 ?_
        refine v_if_eq 279 C dX11_hour_273 (by decide) (fun h273 => ?_) (fun h273 => ?_)
        · refine v_aload_n C dX11_hour_279 rfl ?_
          refine v_getR 73 C fl_RX11_86 rfl (hs.1 47 _ rfl) (hs.2 47 34 73 rfl) dX11_hour_280 ?_
          refine v_iload_n C dX11_hour_283 rfl ?_
          refine v_dup2ir C dX11_hour_284 ?_
          refine v_iaload q C (hs.1 73 _ rfl) (at_nI (by omega) (by decide)) dX11_hour_285 ?_
          refine v_iconst 1 C dX11_hour_286 (by decide) ?_
          refine v_iadd C dX11_hour_287 ?_
          refine v_iastore q C (hs.1 73 _ rfl) (at_nI (by omega) (by decide)) dX11_hour_288 ?_
          refine v_aload_n C dX11_hour_289 rfl ?_
          refine v_getR 73 C fl_RX11_86 rfl (hs.1 47 _ rfl) (hs.2 47 34 73 rfl) dX11_hour_290 ?_
          refine v_iload_n C dX11_hour_293 rfl ?_
          refine v_iaload q C (hs.1 73 _ rfl) (at_nI (by omega) (by decide)) dX11_hour_294 ?_
          refine v_aload_n C dX11_hour_295 rfl ?_
          refine v_getR 74 C fl_RX11_89 rfl (hs.1 47 _ rfl) (hs.2 47 35 74 rfl) dX11_hour_296 ?_
          refine v_iload_n C dX11_hour_299 rfl ?_
          refine v_iaload q C (hs.1 74 _ rfl) (at_nI (by omega) (by decide)) dX11_hour_300 ?_
          refine v_icmp_ge 307 C dX11_hour_301 (by decide) (fun h301 => ?_) (fun h301 => ?_)
          · refine v_aload_n C dX11_hour_307 rfl ?_
            refine v_getR 71 C fl_RX11_80 rfl (hs.1 47 _ rfl) (hs.2 47 32 71 rfl) dX11_hour_308 ?_
            refine v_iload_n C dX11_hour_311 rfl ?_
            refine v_iconst 1 C dX11_hour_312 (by decide) ?_
            refine v_iastore q C (hs.1 71 _ rfl) (at_nI (by omega) (by decide)) dX11_hour_313 ?_
            refine v_aload_n C dX11_hour_314 rfl ?_
            refine v_getR 76 C fl_RX11_95 rfl (hs.1 47 _ rfl) (hs.2 47 37 76 rfl) dX11_hour_315 ?_
            refine v_aload_n C dX11_hour_318 rfl ?_
            refine v_getR 72 C fl_RX11_83 rfl (hs.1 47 _ rfl) (hs.2 47 33 72 rfl) dX11_hour_319 ?_
            refine v_iload_n C dX11_hour_322 rfl ?_
            refine v_iaload q C (hs.1 72 _ rfl) (at_nI (by omega) (by decide)) dX11_hour_323 ?_
            refine v_dup2ir C dX11_hour_324 ?_
            refine v_iaload (ix (Ib 72 q)) C (hs.1 76 _ rfl) (hbq h273) dX11_hour_325 ?_
            refine v_iconst 1 C dX11_hour_326 (by decide) ?_
            refine v_isub C dX11_hour_327 ?_
            refine v_iastore (ix (Ib 72 q)) C (hs.1 76 _ rfl) (hbq h273) dX11_hour_328 ?_
            refine v_eqI (show _ = coolM1 Ib q from ?_) ?_
            · first | (have h301 : Ib 74 q ≤ Ib 73 q + 1 := (by simpa [iu_ap] using h301); simp [coolM1, iu_ap, h273, h301]; done) | (have h301 : ¬ Ib 74 q ≤ Ib 73 q + 1 := (by simpa [iu_ap] using h301); simp [coolM1, iu_ap, h273, h301]; done) | (simp [coolM1, h273]; done)
            refine v_iinc (nI (q + 1)) C dX11_hour_329 rfl (nI_1 q) (Nat.le_of_ble_eq_true rfl) rfl ?_
            refine v_goto 259 C dX11_hour_332 (by decide) ?_
            exact ih m (q + 1) (coolM1 Ib q) (lt_fuel hfuel) (by omega) (by rw [coolM1_s]; exact hi) hb.step hx
          · refine v_goto 329 C dX11_hour_304 (by decide) ?_
            refine v_eqI (show _ = coolM1 Ib q from ?_) ?_
            · first | (have h301 : Ib 74 q ≤ Ib 73 q + 1 := (by simpa [iu_ap] using h301); simp [coolM1, iu_ap, h273, h301]; done) | (have h301 : ¬ Ib 74 q ≤ Ib 73 q + 1 := (by simpa [iu_ap] using h301); simp [coolM1, iu_ap, h273, h301]; done) | (simp [coolM1, h273]; done)
            refine v_iinc (nI (q + 1)) C dX11_hour_329 rfl (nI_1 q) (Nat.le_of_ble_eq_true rfl) rfl ?_
            refine v_goto 259 C dX11_hour_332 (by decide) ?_
            exact ih m (q + 1) (coolM1 Ib q) (lt_fuel hfuel) (by omega) (by rw [coolM1_s]; exact hi) hb.step hx
        · refine v_goto 329 C dX11_hour_276 (by decide) ?_
          refine v_eqI (show _ = coolM1 Ib q from ?_) ?_
          · first | (have h301 : Ib 74 q ≤ Ib 73 q + 1 := (by simpa [iu_ap] using h301); simp [coolM1, iu_ap, h273, h301]; done) | (have h301 : ¬ Ib 74 q ≤ Ib 73 q + 1 := (by simpa [iu_ap] using h301); simp [coolM1, iu_ap, h273, h301]; done) | (simp [coolM1, h273]; done)
          refine v_iinc (nI (q + 1)) C dX11_hour_329 rfl (nI_1 q) (Nat.le_of_ble_eq_true rfl) rfl ?_
          refine v_goto 259 C dX11_hour_332 (by decide) ?_
          exact ih m (q + 1) (coolM1 Ib q) (lt_fuel hfuel) (by omega) (by rw [coolM1_s]; exact hi) hb.step hx
  have tail : ∀ (Ib : IM), hourTm np Ib = hourM n np I → Ib 47 27 = nI np → BayM np 0 Ib → V E X (m_Z E X (m_ret none sh (hourM n np I) J R) 0 0) 0 0 sh Ib J R 148 [some (.ref 47), none, none, none] [] := by
    intro Ib hT hi hb
    refine v_iconst 0 C dX11_hour_148 (by decide) ?_
    refine v_istore_n C dX11_hour_149 (Nat.le_of_ble_eq_true rfl) rfl ?_
    refine v_iload_n C dX11_hour_150 rfl ?_
    refine v_bipush 6 C dX11_hour_151 (by decide) ?_
    refine v_icmp_ge 257 C dX11_hour_153 (by decide) (fun h153 => absurd h153 (by decide)) (fun _ => ?_)
    refine pot1 0 _ _ (at_c rfl) ?_
    refine v_iinc 1 C dX11_hour_251 rfl (by decide) (Nat.le_of_ble_eq_true rfl) rfl ?_
    refine v_goto 150 C dX11_hour_254 (by decide) ?_
    refine v_iload_n C dX11_hour_150 rfl ?_
    refine v_bipush 6 C dX11_hour_151 (by decide) ?_
    refine v_icmp_ge 257 C dX11_hour_153 (by decide) (fun h153 => absurd h153 (by decide)) (fun _ => ?_)
    refine pot1 1 _ _ (at_c rfl) ?_
    refine v_iinc 2 C dX11_hour_251 rfl (by decide) (Nat.le_of_ble_eq_true rfl) rfl ?_
    refine v_goto 150 C dX11_hour_254 (by decide) ?_
    refine v_iload_n C dX11_hour_150 rfl ?_
    refine v_bipush 6 C dX11_hour_151 (by decide) ?_
    refine v_icmp_ge 257 C dX11_hour_153 (by decide) (fun h153 => absurd h153 (by decide)) (fun _ => ?_)
    refine pot1 2 _ _ (at_c rfl) ?_
    refine v_iinc 3 C dX11_hour_251 rfl (by decide) (Nat.le_of_ble_eq_true rfl) rfl ?_
    refine v_goto 150 C dX11_hour_254 (by decide) ?_
    refine v_iload_n C dX11_hour_150 rfl ?_
    refine v_bipush 6 C dX11_hour_151 (by decide) ?_
    refine v_icmp_ge 257 C dX11_hour_153 (by decide) (fun h153 => absurd h153 (by decide)) (fun _ => ?_)
    refine pot1 3 _ _ (at_c rfl) ?_
    refine v_iinc 4 C dX11_hour_251 rfl (by decide) (Nat.le_of_ble_eq_true rfl) rfl ?_
    refine v_goto 150 C dX11_hour_254 (by decide) ?_
    refine v_iload_n C dX11_hour_150 rfl ?_
    refine v_bipush 6 C dX11_hour_151 (by decide) ?_
    refine v_icmp_ge 257 C dX11_hour_153 (by decide) (fun h153 => absurd h153 (by decide)) (fun _ => ?_)
    refine pot1 4 _ _ (at_c rfl) ?_
    refine v_iinc 5 C dX11_hour_251 rfl (by decide) (Nat.le_of_ble_eq_true rfl) rfl ?_
    refine v_goto 150 C dX11_hour_254 (by decide) ?_
    refine v_iload_n C dX11_hour_150 rfl ?_
    refine v_bipush 6 C dX11_hour_151 (by decide) ?_
    refine v_icmp_ge 257 C dX11_hour_153 (by decide) (fun h153 => absurd h153 (by decide)) (fun _ => ?_)
    refine pot1 5 _ _ (at_c rfl) ?_
    refine v_iinc 6 C dX11_hour_251 rfl (by decide) (Nat.le_of_ble_eq_true rfl) rfl ?_
    refine v_goto 150 C dX11_hour_254 (by decide) ?_
    refine v_iload_n C dX11_hour_150 rfl ?_
    refine v_bipush 6 C dX11_hour_151 (by decide) ?_
    refine v_icmp_ge 257 C dX11_hour_153 (by decide) (fun _ => ?_) (fun h153 => absurd h153 (by decide))
    refine v_iconst 0 C dX11_hour_257 (by decide) ?_
    refine v_istore_n C dX11_hour_258 (Nat.le_of_ble_eq_true rfl) rfl ?_
    refine pieces (np + 1) np 0 (potsM Ib) (Nat.lt_succ_self np) (by omega) hi (fun j h1 h2 h3 => hb j h1 h2 h3) ?_
    refine v_aload_n C dX11_hour_335 rfl ?_
    refine v_dupr C dX11_hour_336 ?_
    refine v_getI C fl_RX11_144 rfl (hs.1 47 _ rfl) dX11_hour_337 ?_
    refine v_iconst 1 C dX11_hour_340 (by decide) ?_
    refine v_iadd C dX11_hour_341 ?_
    refine v_putI C fl_RX11_144 rfl (hs.1 47 _ rfl) dX11_hour_342 ?_
    refine v_iconst 0 C dX11_hour_345 (by decide) ?_
    refine v_istore_n C dX11_hour_346 (Nat.le_of_ble_eq_true rfl) rfl ?_
    refine v_iload_n C dX11_hour_347 rfl ?_
    refine v_iconst 4 C dX11_hour_348 (by decide) ?_
    refine v_icmp_ge 366 C dX11_hour_349 (by decide) (fun h349 => absurd h349 (by decide)) (fun _ => ?_)
    refine v_aload_n C dX11_hour_352 rfl ?_
    refine v_getR 66 C fl_RX11_65 rfl (hs.1 47 _ rfl) (hs.2 47 26 66 rfl) dX11_hour_353 ?_
    refine v_iload_n C dX11_hour_356 rfl ?_
    refine v_bipush 60 C dX11_hour_357 (by decide) ?_
    refine v_iastore 0 C (hs.1 66 _ rfl) (at_c rfl) dX11_hour_359 ?_
    refine v_iinc 1 C dX11_hour_360 rfl (by decide) (Nat.le_of_ble_eq_true rfl) rfl ?_
    refine v_goto 347 C dX11_hour_363 (by decide) ?_
    refine v_iload_n C dX11_hour_347 rfl ?_
    refine v_iconst 4 C dX11_hour_348 (by decide) ?_
    refine v_icmp_ge 366 C dX11_hour_349 (by decide) (fun h349 => absurd h349 (by decide)) (fun _ => ?_)
    refine v_aload_n C dX11_hour_352 rfl ?_
    refine v_getR 66 C fl_RX11_65 rfl (hs.1 47 _ rfl) (hs.2 47 26 66 rfl) dX11_hour_353 ?_
    refine v_iload_n C dX11_hour_356 rfl ?_
    refine v_bipush 60 C dX11_hour_357 (by decide) ?_
    refine v_iastore 1 C (hs.1 66 _ rfl) (at_c rfl) dX11_hour_359 ?_
    refine v_iinc 2 C dX11_hour_360 rfl (by decide) (Nat.le_of_ble_eq_true rfl) rfl ?_
    refine v_goto 347 C dX11_hour_363 (by decide) ?_
    refine v_iload_n C dX11_hour_347 rfl ?_
    refine v_iconst 4 C dX11_hour_348 (by decide) ?_
    refine v_icmp_ge 366 C dX11_hour_349 (by decide) (fun h349 => absurd h349 (by decide)) (fun _ => ?_)
    refine v_aload_n C dX11_hour_352 rfl ?_
    refine v_getR 66 C fl_RX11_65 rfl (hs.1 47 _ rfl) (hs.2 47 26 66 rfl) dX11_hour_353 ?_
    refine v_iload_n C dX11_hour_356 rfl ?_
    refine v_bipush 60 C dX11_hour_357 (by decide) ?_
    refine v_iastore 2 C (hs.1 66 _ rfl) (at_c rfl) dX11_hour_359 ?_
    refine v_iinc 3 C dX11_hour_360 rfl (by decide) (Nat.le_of_ble_eq_true rfl) rfl ?_
    refine v_goto 347 C dX11_hour_363 (by decide) ?_
    refine v_iload_n C dX11_hour_347 rfl ?_
    refine v_iconst 4 C dX11_hour_348 (by decide) ?_
    refine v_icmp_ge 366 C dX11_hour_349 (by decide) (fun h349 => absurd h349 (by decide)) (fun _ => ?_)
    refine v_aload_n C dX11_hour_352 rfl ?_
    refine v_getR 66 C fl_RX11_65 rfl (hs.1 47 _ rfl) (hs.2 47 26 66 rfl) dX11_hour_353 ?_
    refine v_iload_n C dX11_hour_356 rfl ?_
    refine v_bipush 60 C dX11_hour_357 (by decide) ?_
    refine v_iastore 3 C (hs.1 66 _ rfl) (at_c rfl) dX11_hour_359 ?_
    refine v_iinc 4 C dX11_hour_360 rfl (by decide) (Nat.le_of_ble_eq_true rfl) rfl ?_
    refine v_goto 347 C dX11_hour_363 (by decide) ?_
    refine v_iload_n C dX11_hour_347 rfl ?_
    refine v_iconst 4 C dX11_hour_348 (by decide) ?_
    refine v_icmp_ge 366 C dX11_hour_349 (by decide) (fun _ => ?_) (fun h349 => absurd h349 (by decide))
    refine v_aload_n C dX11_hour_366 rfl ?_
    refine v_getI C fl_RX11_144 rfl (hs.1 47 _ rfl) dX11_hour_367 ?_
    refine v_sipush 500 C dX11_hour_370 (by decide) ?_
    refine v_irem C dX11_hour_373 (by decide) ?_
    refine v_if_ne 397 C dX11_hour_374 (by decide) (fun h374 => ?_) (fun h374 => ?_)
    · exact v_vret C dX11_hour_397 (by rw [← hT, hourTm]; generalize coolM np 0 (potsM Ib) = Ic at *; first | exact ⟨rfl, rfl, (if_pos h374).symm, rfl, rfl⟩ | exact ⟨rfl, rfl, (if_neg h374).symm, rfl, rfl⟩)
    · refine v_iconst 0 C dX11_hour_377 (by decide) ?_
      refine v_istore_n C dX11_hour_378 (Nat.le_of_ble_eq_true rfl) rfl ?_
      refine v_iload_n C dX11_hour_379 rfl ?_
      refine v_iconst 5 C dX11_hour_380 (by decide) ?_
      refine v_icmp_ge 397 C dX11_hour_381 (by decide) (fun h381 => absurd h381 (by decide)) (fun _ => ?_)
      refine v_aload_n C dX11_hour_384 rfl ?_
      refine v_getR 49 C fl_RX11_13 rfl (hs.1 47 _ rfl) (hs.2 47 7 49 rfl) dX11_hour_385 ?_
      refine v_iload_n C dX11_hour_388 rfl ?_
      refine v_iconst 0 C dX11_hour_389 (by decide) ?_
      refine v_iastore 0 C (hs.1 49 _ rfl) (at_c rfl) dX11_hour_390 ?_
      refine v_iinc 1 C dX11_hour_391 rfl (by decide) (Nat.le_of_ble_eq_true rfl) rfl ?_
      refine v_goto 379 C dX11_hour_394 (by decide) ?_
      refine v_iload_n C dX11_hour_379 rfl ?_
      refine v_iconst 5 C dX11_hour_380 (by decide) ?_
      refine v_icmp_ge 397 C dX11_hour_381 (by decide) (fun h381 => absurd h381 (by decide)) (fun _ => ?_)
      refine v_aload_n C dX11_hour_384 rfl ?_
      refine v_getR 49 C fl_RX11_13 rfl (hs.1 47 _ rfl) (hs.2 47 7 49 rfl) dX11_hour_385 ?_
      refine v_iload_n C dX11_hour_388 rfl ?_
      refine v_iconst 0 C dX11_hour_389 (by decide) ?_
      refine v_iastore 1 C (hs.1 49 _ rfl) (at_c rfl) dX11_hour_390 ?_
      refine v_iinc 2 C dX11_hour_391 rfl (by decide) (Nat.le_of_ble_eq_true rfl) rfl ?_
      refine v_goto 379 C dX11_hour_394 (by decide) ?_
      refine v_iload_n C dX11_hour_379 rfl ?_
      refine v_iconst 5 C dX11_hour_380 (by decide) ?_
      refine v_icmp_ge 397 C dX11_hour_381 (by decide) (fun h381 => absurd h381 (by decide)) (fun _ => ?_)
      refine v_aload_n C dX11_hour_384 rfl ?_
      refine v_getR 49 C fl_RX11_13 rfl (hs.1 47 _ rfl) (hs.2 47 7 49 rfl) dX11_hour_385 ?_
      refine v_iload_n C dX11_hour_388 rfl ?_
      refine v_iconst 0 C dX11_hour_389 (by decide) ?_
      refine v_iastore 2 C (hs.1 49 _ rfl) (at_c rfl) dX11_hour_390 ?_
      refine v_iinc 3 C dX11_hour_391 rfl (by decide) (Nat.le_of_ble_eq_true rfl) rfl ?_
      refine v_goto 379 C dX11_hour_394 (by decide) ?_
      refine v_iload_n C dX11_hour_379 rfl ?_
      refine v_iconst 5 C dX11_hour_380 (by decide) ?_
      refine v_icmp_ge 397 C dX11_hour_381 (by decide) (fun h381 => absurd h381 (by decide)) (fun _ => ?_)
      refine v_aload_n C dX11_hour_384 rfl ?_
      refine v_getR 49 C fl_RX11_13 rfl (hs.1 47 _ rfl) (hs.2 47 7 49 rfl) dX11_hour_385 ?_
      refine v_iload_n C dX11_hour_388 rfl ?_
      refine v_iconst 0 C dX11_hour_389 (by decide) ?_
      refine v_iastore 3 C (hs.1 49 _ rfl) (at_c rfl) dX11_hour_390 ?_
      refine v_iinc 4 C dX11_hour_391 rfl (by decide) (Nat.le_of_ble_eq_true rfl) rfl ?_
      refine v_goto 379 C dX11_hour_394 (by decide) ?_
      refine v_iload_n C dX11_hour_379 rfl ?_
      refine v_iconst 5 C dX11_hour_380 (by decide) ?_
      refine v_icmp_ge 397 C dX11_hour_381 (by decide) (fun h381 => absurd h381 (by decide)) (fun _ => ?_)
      refine v_aload_n C dX11_hour_384 rfl ?_
      refine v_getR 49 C fl_RX11_13 rfl (hs.1 47 _ rfl) (hs.2 47 7 49 rfl) dX11_hour_385 ?_
      refine v_iload_n C dX11_hour_388 rfl ?_
      refine v_iconst 0 C dX11_hour_389 (by decide) ?_
      refine v_iastore 4 C (hs.1 49 _ rfl) (at_c rfl) dX11_hour_390 ?_
      refine v_iinc 5 C dX11_hour_391 rfl (by decide) (Nat.le_of_ble_eq_true rfl) rfl ?_
      refine v_goto 379 C dX11_hour_394 (by decide) ?_
      refine v_iload_n C dX11_hour_379 rfl ?_
      refine v_iconst 5 C dX11_hour_380 (by decide) ?_
      refine v_icmp_ge 397 C dX11_hour_381 (by decide) (fun _ => ?_) (fun h381 => absurd h381 (by decide))
      exact v_vret C dX11_hour_397 (by rw [← hT, hourTm]; generalize coolM np 0 (potsM Ib) = Ic at *; first | exact ⟨rfl, rfl, (if_pos h374).symm, rfl, rfl⟩ | exact ⟨rfl, rfl, (if_neg h374).symm, rfl, rfl⟩)
  refine v_aload_n C dX11_hour_0 rfl ?_
  refine v_getI C fl_RX11_154 rfl (hs.1 47 _ rfl) dX11_hour_1 ?_
  refine v_aload_n C dX11_hour_4 rfl ?_
  refine v_getI C fl_RX11_151 rfl (hs.1 47 _ rfl) dX11_hour_5 ?_
  refine v_icmp_ge 18 C dX11_hour_8 (by decide) (fun h8 => ?_) (fun h8 => ?_)
  · refine v_aload_n C dX11_hour_18 rfl ?_
    refine v_getI C fl_RX11_151 rfl (hs.1 47 _ rfl) dX11_hour_19 ?_
    refine v_istore_n C dX11_hour_22 (Nat.le_of_ble_eq_true rfl) rfl ?_
    refine v_aload_n C dX11_hour_23 rfl ?_
    refine v_dupr C dX11_hour_24 ?_
    refine v_getI C fl_RX11_151 rfl (hs.1 47 _ rfl) dX11_hour_25 ?_
    refine v_iload_n C dX11_hour_28 rfl ?_
    refine v_isub C dX11_hour_29 ?_
    refine v_putI C fl_RX11_151 rfl (hs.1 47 _ rfl) dX11_hour_30 ?_
    refine v_iconst 0 C dX11_hour_33 (by decide) ?_
    refine v_istore_n C dX11_hour_34 (Nat.le_of_ble_eq_true rfl) rfl ?_
    refine v_iconst 0 C dX11_hour_35 (by decide) ?_
    refine v_istore_n C dX11_hour_36 (Nat.le_of_ble_eq_true rfl) rfl ?_
    refine cold (n + 1) n 0 0 _ _ (Nat.lt_succ_self n) (by omega) hn ?_
    refine v_aload_n C dX11_hour_90 rfl ?_
    refine v_aload_n C dX11_hour_91 rfl ?_
    refine v_getI C fl_RX11_160 rfl (hs.1 47 _ rfl) dX11_hour_92 ?_
    refine v_bipush 30 C dX11_hour_95 (by decide) ?_
    refine v_iload_n C dX11_hour_97 rfl ?_
    refine v_imul C dX11_hour_98 ?_
    refine v_iadd C dX11_hour_99 ?_
    refine v_aload_n C dX11_hour_100 rfl ?_
    refine v_getI C fl_RX11_160 rfl (hs.1 47 _ rfl) dX11_hour_101 ?_
    refine v_bipush 20 C dX11_hour_104 (by decide) ?_
    refine v_idiv C dX11_hour_106 (by decide) ?_
    refine v_isub C dX11_hour_107 ?_
    refine v_iload_n C dX11_hour_108 rfl ?_
    refine v_isub C dX11_hour_109 ?_
    refine v_putI C fl_RX11_160 rfl (hs.1 47 _ rfl) dX11_hour_110 ?_
    refine v_aload_n C dX11_hour_113 rfl ?_
    refine v_aload_n C dX11_hour_114 rfl ?_
    refine v_getI C fl_RX11_160 rfl (hs.1 47 _ rfl) dX11_hour_115 ?_
    refine v_if_ge 125 C dX11_hour_118 (by decide) (fun h118 => ?_) (fun h118 => ?_)
    · refine v_aload_n C dX11_hour_125 rfl ?_
      refine v_getI C fl_RX11_160 rfl (hs.1 47 _ rfl) dX11_hour_126 ?_
      refine v_sipush 2000 C dX11_hour_129 (by decide) ?_
      refine v_icmp_le 141 C dX11_hour_132 (by decide) (fun h132 => ?_) (fun h132 => ?_)
      · refine v_aload_n C dX11_hour_141 rfl ?_
        refine v_getI C fl_RX11_160 rfl (hs.1 47 _ rfl) dX11_hour_142 ?_
        refine v_putI C fl_RX11_160 rfl (hs.1 47 _ rfl) dX11_hour_145 ?_
        refine v_eqI iu_iu ?_
        refine v_drop 1 ?_
        refine v_drop 2 ?_
        refine tail _ ?_ hp (fun j h1 h2 h3 => hb j h1 h2 h3)
        exact congrArg (hourTm np) (heat_fin (by simp [burM, h8]) rfl (by first | exact if_neg h118 | exact (if_pos h118).trans (if_pos h132) | exact (if_pos h118).trans (if_neg h132)))
      · refine v_sipush 2000 C dX11_hour_135 (by decide) ?_
        refine v_goto 145 C dX11_hour_138 (by decide) ?_
        refine v_putI C fl_RX11_160 rfl (hs.1 47 _ rfl) dX11_hour_145 ?_
        refine v_eqI iu_iu ?_
        refine v_drop 1 ?_
        refine v_drop 2 ?_
        refine tail _ ?_ hp (fun j h1 h2 h3 => hb j h1 h2 h3)
        exact congrArg (hourTm np) (heat_fin (by simp [burM, h8]) rfl (by first | exact if_neg h118 | exact (if_pos h118).trans (if_pos h132) | exact (if_pos h118).trans (if_neg h132)))
    · refine v_iconst 0 C dX11_hour_121 (by decide) ?_
      refine v_goto 145 C dX11_hour_122 (by decide) ?_
      refine v_putI C fl_RX11_160 rfl (hs.1 47 _ rfl) dX11_hour_145 ?_
      refine v_eqI iu_iu ?_
      refine v_drop 1 ?_
      refine v_drop 2 ?_
      refine tail _ ?_ hp (fun j h1 h2 h3 => hb j h1 h2 h3)
      exact congrArg (hourTm np) (heat_fin (by simp [burM, h8]) rfl (by first | exact if_neg h118 | exact (if_pos h118).trans (if_pos h132) | exact (if_pos h118).trans (if_neg h132)))
  · refine v_aload_n C dX11_hour_11 rfl ?_
    refine v_getI C fl_RX11_154 rfl (hs.1 47 _ rfl) dX11_hour_12 ?_
    refine v_goto 22 C dX11_hour_15 (by decide) ?_
    refine v_istore_n C dX11_hour_22 (Nat.le_of_ble_eq_true rfl) rfl ?_
    refine v_aload_n C dX11_hour_23 rfl ?_
    refine v_dupr C dX11_hour_24 ?_
    refine v_getI C fl_RX11_151 rfl (hs.1 47 _ rfl) dX11_hour_25 ?_
    refine v_iload_n C dX11_hour_28 rfl ?_
    refine v_isub C dX11_hour_29 ?_
    refine v_putI C fl_RX11_151 rfl (hs.1 47 _ rfl) dX11_hour_30 ?_
    refine v_iconst 0 C dX11_hour_33 (by decide) ?_
    refine v_istore_n C dX11_hour_34 (Nat.le_of_ble_eq_true rfl) rfl ?_
    refine v_iconst 0 C dX11_hour_35 (by decide) ?_
    refine v_istore_n C dX11_hour_36 (Nat.le_of_ble_eq_true rfl) rfl ?_
    refine cold (n + 1) n 0 0 _ _ (Nat.lt_succ_self n) (by omega) hn ?_
    refine v_aload_n C dX11_hour_90 rfl ?_
    refine v_aload_n C dX11_hour_91 rfl ?_
    refine v_getI C fl_RX11_160 rfl (hs.1 47 _ rfl) dX11_hour_92 ?_
    refine v_bipush 30 C dX11_hour_95 (by decide) ?_
    refine v_iload_n C dX11_hour_97 rfl ?_
    refine v_imul C dX11_hour_98 ?_
    refine v_iadd C dX11_hour_99 ?_
    refine v_aload_n C dX11_hour_100 rfl ?_
    refine v_getI C fl_RX11_160 rfl (hs.1 47 _ rfl) dX11_hour_101 ?_
    refine v_bipush 20 C dX11_hour_104 (by decide) ?_
    refine v_idiv C dX11_hour_106 (by decide) ?_
    refine v_isub C dX11_hour_107 ?_
    refine v_iload_n C dX11_hour_108 rfl ?_
    refine v_isub C dX11_hour_109 ?_
    refine v_putI C fl_RX11_160 rfl (hs.1 47 _ rfl) dX11_hour_110 ?_
    refine v_aload_n C dX11_hour_113 rfl ?_
    refine v_aload_n C dX11_hour_114 rfl ?_
    refine v_getI C fl_RX11_160 rfl (hs.1 47 _ rfl) dX11_hour_115 ?_
    refine v_if_ge 125 C dX11_hour_118 (by decide) (fun h118 => ?_) (fun h118 => ?_)
    · refine v_aload_n C dX11_hour_125 rfl ?_
      refine v_getI C fl_RX11_160 rfl (hs.1 47 _ rfl) dX11_hour_126 ?_
      refine v_sipush 2000 C dX11_hour_129 (by decide) ?_
      refine v_icmp_le 141 C dX11_hour_132 (by decide) (fun h132 => ?_) (fun h132 => ?_)
      · refine v_aload_n C dX11_hour_141 rfl ?_
        refine v_getI C fl_RX11_160 rfl (hs.1 47 _ rfl) dX11_hour_142 ?_
        refine v_putI C fl_RX11_160 rfl (hs.1 47 _ rfl) dX11_hour_145 ?_
        refine v_eqI iu_iu ?_
        refine v_drop 1 ?_
        refine v_drop 2 ?_
        refine tail _ ?_ hp (fun j h1 h2 h3 => hb j h1 h2 h3)
        exact congrArg (hourTm np) (heat_fin (by simp [burM, h8]) rfl (by first | exact if_neg h118 | exact (if_pos h118).trans (if_pos h132) | exact (if_pos h118).trans (if_neg h132)))
      · refine v_sipush 2000 C dX11_hour_135 (by decide) ?_
        refine v_goto 145 C dX11_hour_138 (by decide) ?_
        refine v_putI C fl_RX11_160 rfl (hs.1 47 _ rfl) dX11_hour_145 ?_
        refine v_eqI iu_iu ?_
        refine v_drop 1 ?_
        refine v_drop 2 ?_
        refine tail _ ?_ hp (fun j h1 h2 h3 => hb j h1 h2 h3)
        exact congrArg (hourTm np) (heat_fin (by simp [burM, h8]) rfl (by first | exact if_neg h118 | exact (if_pos h118).trans (if_pos h132) | exact (if_pos h118).trans (if_neg h132)))
    · refine v_iconst 0 C dX11_hour_121 (by decide) ?_
      refine v_goto 145 C dX11_hour_122 (by decide) ?_
      refine v_putI C fl_RX11_160 rfl (hs.1 47 _ rfl) dX11_hour_145 ?_
      refine v_eqI iu_iu ?_
      refine v_drop 1 ?_
      refine v_drop 2 ?_
      refine tail _ ?_ hp (fun j h1 h2 h3 => hb j h1 h2 h3)
      exact congrArg (hourTm np) (heat_fin (by simp [burM, h8]) rfl (by first | exact if_neg h118 | exact (if_pos h118).trans (if_pos h132) | exact (if_pos h118).trans (if_neg h132)))
