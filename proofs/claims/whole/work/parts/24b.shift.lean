theorem wI_le {M n : Nat} (h : M ≤ n) (hn : n < 2 ^ 31) : ¬ wI (nI M) 0 (nI n) = 0 := fun q => wI_0 q ⟨nI_pos' (by omega), nI_le h hn⟩

set_option maxHeartbeats 4000000 in
set_option maxRecDepth 100000 in
theorem c_X11_shiftN {lnc : Launch} {E : En} {sh : List Sh} {I : IM} {J : JM} {R : RM} {c : Int32} {K : Kd} {M G : Nat} (hs : St sh R) (hK : KM I c K) (hM : M ≤ 480) (hG : G ≤ 500) (hc7 : ¬ wI c 0 7 = 0) : Ct lnc E yX11_shift cX11_shift 13 (some .int) 1 22 [.ref 47, .int (nI M), .int (nI G), .int c] sh I J R 0 0 (shmQ sh I J R K M G) := by
  refine Ct.of (lv := [some (.ref 47), some (.int (nI M)), some (.int (nI G)), some (.int c), none, none, none, none, none, none, none, none, none]) (by decide) (Nat.le_of_ble_eq_true rfl) rfl (fun X hX C => ?_)
  have fin : ∀ (Jj : JM), (∀ a, a ≠ 84 → Jj a = J a) → TF K Jj M G 0 → V E X (m_Z E X (shmQ sh I J R K M G) 0 0) 0 0 sh I Jj R 283 [some (.ref 47), some (.int (nI M)), some (.int (nI G)), some (.int c), none, none, none, none, none, none, none, none, none] [] := by
    intro Jj hJ hT
    obtain ⟨v0, hv0, hv0J⟩ := hT 0 (Nat.le_refl _) (by decide) M (Nat.le_refl _) G (Nat.le_refl _)
    have kl : ∀ (fuel : Nat) (m k i j left : Nat) (pre : Nat → Nat) (Ii : IM), m < fuel → k + m = 5 → CI K M G k i j left pre → PreI I Ii k pre → V E X (m_Z E X (shmQ sh I J R K M G) 0 0) 0 0 sh Ii Jj R 310 [some (.ref 47), some (.int (nI M)), some (.int (nI G)), some (.int c), some (.long (lN v0)), none, some (.int (nI i)), some (.int (nI j)), some (.long (lN left)), none, some (.int (nI k)), none, none] [] := by
      intro fuel
      induction fuel with
      | zero => intro m k i j left pre Ii hfuel; exact absurd hfuel (Nat.not_lt_zero _)
      | succ fuel ih =>
        intro m k i j left pre Ii hfuel hk hC hP
        refine v_iload C dX11_shift_310 rfl ?_
        refine v_iconst 5 C dX11_shift_312 (by decide) ?_
        refine v_icmp_ge 523 C dX11_shift_313 (by decide) (fun h313 => ?_) (fun h313 => ?_)
        · have hk5 := nI_le_of (n := 5) h313 (by omega) (by decide)
          obtain rfl : k = 5 := by omega
          have hL := hC.done
          have hcm := hC.2.1
          have hcg := hC.2.2.1
          have hv0e : v0 = pS K.v pre 5 := hv0.uniq hL.vx
          have hpr := pS_price (K := K) (x := pre) (fun d hd => (hL.1.1 d hd).2.2) 5
          have hv0l := hv0.le hM
          refine v_aload_n C dX11_shift_523 rfl ?_
          refine v_getR 85 C fl_RX11_125 rfl (hs.1 47 _ rfl) (hs.2 47 52 85 rfl) dX11_shift_524 ?_
          refine v_iconst 5 C dX11_shift_527 (by decide) ?_
          refine v_iload_n C dX11_shift_528 rfl ?_
          refine v_iload C dX11_shift_529 rfl ?_
          refine v_isub C dX11_shift_531 ?_
          refine v_eqi (show _ = nI (pS K.mi pre 5) from by rw [pk_sub (by omega)]; congr 1; omega) ?_
          refine v_iastore 5 C (hs.1 85 _ rfl) (at_c rfl) dX11_shift_532 ?_
          refine v_aload_n C dX11_shift_533 rfl ?_
          refine v_getR 85 C fl_RX11_125 rfl (hs.1 47 _ rfl) (hs.2 47 52 85 rfl) dX11_shift_534 ?_
          refine v_bipush 6 C dX11_shift_537 (by decide) ?_
          refine v_iload_n C dX11_shift_539 rfl ?_
          refine v_iload C dX11_shift_540 rfl ?_
          refine v_isub C dX11_shift_542 ?_
          refine v_eqi (show _ = nI (pS K.w pre 5) from by rw [pk_sub (by omega)]; congr 1; omega) ?_
          refine v_iastore 6 C (hs.1 85 _ rfl) (at_c rfl) dX11_shift_543 ?_
          refine v_lload C dX11_shift_544 rfl ?_
          refine v_aload_n C dX11_shift_546 rfl ?_
          refine v_getR 85 C fl_RX11_125 rfl (hs.1 47 _ rfl) (hs.2 47 52 85 rfl) dX11_shift_547 ?_
          refine v_iconst 5 C dX11_shift_550 (by decide) ?_
          refine v_iaload 5 C (hs.1 85 _ rfl) (at_c rfl) dX11_shift_551 ?_
          refine v_eqi (show _ = nI (pS K.mi pre 5) from rfl) ?_
          refine v_i2l C dX11_shift_552 ?_
          refine v_ladd C dX11_shift_553 ?_
          refine v_eql (show _ = lN (1024 * pS K.p pre 5) from by rw [nI_l (by omega), lN_add]; congr 1; omega) ?_
          refine v_ldc2 1024 C ct_RX11_234 dX11_shift_554 ?_
          refine v_ldiv C dX11_shift_557 (by decide) ?_
          refine v_eql (show _ = lN (pS K.p pre 5) from by rw [show (1024 : Int64) = lN 1024 from rfl, pk_lDiv (by omega) (by decide) (by decide)]; congr 1; omega) ?_
          refine v_l2i C dX11_shift_558 ?_
          refine v_eqi (lN_i _) ?_
          exact v_iret C dX11_shift_559 ⟨pre, hL, rfl, rfl, rfl, hJ, fun a ha => by rw [iu_ne a ha, iu_ne a ha]; exact hP.1 a ha, rfl, rfl, fun k hk => by rw [iu_k (by omega), iu_k (by omega)]; exact hP.2 k (by omega)⟩
        · have hk5 := nI_lt_of (n := 5) h313 (by omega)
          obtain ⟨m, rfl⟩ : ∃ m2, m = m2 + 1 := ⟨m - 1, by omega⟩
          have hiM : i ≤ M := by have := hC.2.1; omega
          have hjG : j ≤ G := by have := hC.2.2.1; omega
          have hll := hC.1.le (by omega)
          obtain ⟨vv, hvv, _⟩ := hT (k + 1) (Nat.zero_le _) (by omega) i hiM j hjG
          refine v_iconst 0 C dX11_shift_316 (by decide) ?_
          refine v_istore C dX11_shift_317 (Nat.le_of_ble_eq_true rfl) rfl ?_
          refine v_aload_n C dX11_shift_319 rfl ?_
          refine v_iload C dX11_shift_320 rfl ?_
          refine v_iload_n C dX11_shift_322 rfl ?_
          refine v_callVi C (c_X11_isOf hs (at_nI hk5 (by decide))) mt_X11_isOf lk_RX11_231 rfl rfl (hs.1 47 _ rfl) rfl rfl rfl rfl rfl dX11_shift_323 ?_
          refine v_eqi (show _ = isOfF (I 58 k) (I 62 k) c from by rw [hP.1 58 (by decide), hP.1 62 (by decide)]) ?_
          refine v_if_eq 508 C dX11_shift_326 (by decide) (fun h326 => ?_) (fun h326 => ?_)
          · refine v_aload_n C dX11_shift_508 rfl ?_
            refine v_getR 85 C fl_RX11_125 rfl (hs.1 47 _ rfl) (hs.2 47 52 85 rfl) dX11_shift_509 ?_
            refine v_iload C dX11_shift_512 rfl ?_
            refine v_iload C dX11_shift_514 rfl ?_
            refine v_iastore k C (hs.1 85 _ rfl) (at_nI (by omega) (by decide)) dX11_shift_516 ?_
            refine v_iinc (nI (k + 1)) C dX11_shift_517 rfl (nI_1 k) (Nat.le_of_ble_eq_true rfl) rfl ?_
            refine v_goto 310 C dX11_shift_520 (by decide) ?_
            refine v_drop 11 ?_
            exact ih m (k + 1) i j left pre _ (lt_fuel hfuel) (by omega) (hC.skip (hK.u0 hk5 h326) hvv) (hP.put0 (hC.2.2.2.1 k (Nat.le_refl k)))
          · have hu := hK.u1 hk5 h326
            have hKq := (hK k hk5).2 hu
            have bw := K.hw _ hu
            have bm := K.hm _ hu
            have bp := K.hp _ hu
            have bv := K.v_pos hu
            refine v_iconst 1 C dX11_shift_329 (by decide) ?_
            refine v_istore C dX11_shift_330 (Nat.le_of_ble_eq_true rfl) rfl ?_
            have hE : ∀ i2 j2, i2 ≤ i → j2 ≤ j → ∃ b, Vx K (k + 1) i2 j2 b := fun i2 j2 q1 q2 => by obtain ⟨v, hv, _⟩ := hT (k + 1) (Nat.zero_le _) (by omega) i2 (by omega) j2 (by omega); exact ⟨v, hv⟩
            have tail : ∀ n : Nat, (n * K.mi k ≤ i ∧ n * K.w k ≤ j ∧ ∃ b, Vx K (k + 1) (i - n * K.mi k) (j - n * K.w k) b ∧ b + n * K.v k = left ∧ ∀ y, Lx K (k + 1) (i - n * K.mi k) (j - n * K.w k) y → Lx K k i j (pad y (psc n k))) → V E X (m_Z E X (shmQ sh I J R K M G) 0 0) 0 0 sh Ii Jj R 448 [some (.ref 47), some (.int (nI M)), some (.int (nI G)), some (.int c), some (.long (lN v0)), none, some (.int (nI i)), some (.int (nI j)), some (.long (lN left)), none, some (.int (nI k)), some (.int (nI n)), none] [] := by
              rintro n ⟨hi1, hj1, b, hb, he, hL⟩
              have hnb : n * 1 ≤ n * K.mi k := Nat.mul_le_mul_left n bm.1
              refine v_iload C dX11_shift_448 rfl ?_
              refine v_iload C dX11_shift_450 rfl ?_
              refine v_aload_n C dX11_shift_452 rfl ?_
              refine v_getR 60 C fl_RX11_47 rfl (hs.1 47 _ rfl) (hs.2 47 20 60 rfl) dX11_shift_453 ?_
              refine v_iload C dX11_shift_456 rfl ?_
              refine v_iaload k C (hs.1 60 _ rfl) (at_nI hk5 (by decide)) dX11_shift_458 ?_
              refine v_eqi (show _ = nI (K.mi k) from by rw [hP.1 60 (by decide)]; exact hKq.2.1) ?_
              refine v_imul C dX11_shift_459 ?_
              refine v_eqi (pk_mul _ _) ?_
              refine v_isub C dX11_shift_460 ?_
              refine v_eqi (pk_sub hi1) ?_
              refine v_istore C dX11_shift_461 (Nat.le_of_ble_eq_true rfl) rfl ?_
              refine v_iload C dX11_shift_463 rfl ?_
              refine v_iload C dX11_shift_465 rfl ?_
              refine v_aload_n C dX11_shift_467 rfl ?_
              refine v_getR 59 C fl_RX11_44 rfl (hs.1 47 _ rfl) (hs.2 47 19 59 rfl) dX11_shift_468 ?_
              refine v_iload C dX11_shift_471 rfl ?_
              refine v_iaload k C (hs.1 59 _ rfl) (at_nI hk5 (by decide)) dX11_shift_473 ?_
              refine v_eqi (show _ = nI (K.w k) from by rw [hP.1 59 (by decide)]; exact hKq.1) ?_
              refine v_imul C dX11_shift_474 ?_
              refine v_eqi (pk_mul _ _) ?_
              refine v_isub C dX11_shift_475 ?_
              refine v_eqi (pk_sub hj1) ?_
              refine v_istore C dX11_shift_476 (Nat.le_of_ble_eq_true rfl) rfl ?_
              refine v_lload C dX11_shift_478 rfl ?_
              refine v_iload C dX11_shift_480 rfl ?_
              refine v_i2l C dX11_shift_482 ?_
              refine v_ldc2 1024 C ct_RX11_234 dX11_shift_483 ?_
              refine v_aload_n C dX11_shift_486 rfl ?_
              refine v_getR 61 C fl_RX11_50 rfl (hs.1 47 _ rfl) (hs.2 47 21 61 rfl) dX11_shift_487 ?_
              refine v_iload C dX11_shift_490 rfl ?_
              refine v_iaload k C (hs.1 61 _ rfl) (at_nI hk5 (by decide)) dX11_shift_492 ?_
              refine v_eqi (show _ = nI (K.p k) from by rw [hP.1 61 (by decide)]; exact hKq.2.2) ?_
              refine v_i2l C dX11_shift_493 ?_
              refine v_lmul C dX11_shift_494 ?_
              refine v_aload_n C dX11_shift_495 rfl ?_
              refine v_getR 60 C fl_RX11_47 rfl (hs.1 47 _ rfl) (hs.2 47 20 60 rfl) dX11_shift_496 ?_
              refine v_iload C dX11_shift_499 rfl ?_
              refine v_iaload k C (hs.1 60 _ rfl) (at_nI hk5 (by decide)) dX11_shift_501 ?_
              refine v_eqi (show _ = nI (K.mi k) from by rw [hP.1 60 (by decide)]; exact hKq.2.1) ?_
              refine v_i2l C dX11_shift_502 ?_
              refine v_lsub C dX11_shift_503 ?_
              refine v_lmul C dX11_shift_504 ?_
              refine v_eql (show _ = lN (n * K.v k) from lN_v bp.1 bm.2 bp.2 (by omega)) ?_
              refine v_lsub C dX11_shift_505 ?_
              refine v_eql (show _ = lN b from by rw [lN_sub (by omega)]; congr 1; omega) ?_
              refine v_lstore C dX11_shift_506 (Nat.le_of_ble_eq_true rfl) rfl ?_
              refine v_aload_n C dX11_shift_508 rfl ?_
              refine v_getR 85 C fl_RX11_125 rfl (hs.1 47 _ rfl) (hs.2 47 52 85 rfl) dX11_shift_509 ?_
              refine v_iload C dX11_shift_512 rfl ?_
              refine v_iload C dX11_shift_514 rfl ?_
              refine v_iastore k C (hs.1 85 _ rfl) (at_nI (by omega) (by decide)) dX11_shift_516 ?_
              refine v_iinc (nI (k + 1)) C dX11_shift_517 rfl (nI_1 k) (Nat.le_of_ble_eq_true rfl) rfl ?_
              refine v_goto 310 C dX11_shift_520 (by decide) ?_
              refine v_drop 11 ?_
              exact ih m (k + 1) _ _ b _ _ (lt_fuel hfuel) (by omega) (hC.take hk5 hi1 hj1 hb hL) (hP.put (hC.2.2.2.1 k (Nat.le_refl k)))
            have tl : ∀ (fuel : Nat) (m2 n t : Nat), m2 < fuel → t + m2 = i + 2 → BI K i j k left n t → V E X (m_Z E X (shmQ sh I J R K M G) 0 0) 0 0 sh Ii Jj R 332 [some (.ref 47), some (.int (nI M)), some (.int (nI G)), some (.int c), some (.long (lN v0)), none, some (.int (nI i)), some (.int (nI j)), some (.long (lN left)), none, some (.int (nI k)), some (.int (nI n)), some (.int (nI t))] [] := by
              intro fuel
              induction fuel with
              | zero => intro m2 n t hfuel; exact absurd hfuel (Nat.not_lt_zero _)
              | succ fuel ih =>
                intro m2 n t hfuel hk2 hB
                refine v_iload C dX11_shift_332 rfl ?_
                have hb1 : t * K.mi k ≤ 482 * 60 := Nat.mul_le_mul (by omega) bm.2
                have hb2 : t * K.w k ≤ 482 * 50 := Nat.mul_le_mul (by omega) bw.2
                have hb3 : t * K.v k ≤ 482 * 10240000 := Nat.mul_le_mul (by omega) bv.2.1
                refine v_aload_n C dX11_shift_334 rfl ?_
                refine v_getR 60 C fl_RX11_47 rfl (hs.1 47 _ rfl) (hs.2 47 20 60 rfl) dX11_shift_335 ?_
                refine v_iload C dX11_shift_338 rfl ?_
                refine v_iaload k C (hs.1 60 _ rfl) (at_nI hk5 (by decide)) dX11_shift_340 ?_
                refine v_eqi (show _ = nI (K.mi k) from by rw [hP.1 60 (by decide)]; exact hKq.2.1) ?_
                refine v_imul C dX11_shift_341 ?_
                refine v_eqi (pk_mul _ _) ?_
                refine v_iload C dX11_shift_342 rfl ?_
                refine v_icmp_gt 448 C dX11_shift_344 (by decide) (fun h344 => ?_) (fun h344 => ?_)
                · refine v_drop 12 ?_
                  first
                    | exact tail n (hB.fin hk5 hu hC.1 hE (Or.inl ((nI_ltI (by omega) (by omega)).mp h344)))
                    | exact tail n (hB.fin hk5 hu hC.1 hE (Or.inr ((nI_ltI (by omega) (by omega)).mp h359)))
                · refine v_iload C dX11_shift_347 rfl ?_
                  refine v_aload_n C dX11_shift_349 rfl ?_
                  refine v_getR 59 C fl_RX11_44 rfl (hs.1 47 _ rfl) (hs.2 47 19 59 rfl) dX11_shift_350 ?_
                  refine v_iload C dX11_shift_353 rfl ?_
                  refine v_iaload k C (hs.1 59 _ rfl) (at_nI hk5 (by decide)) dX11_shift_355 ?_
                  refine v_eqi (show _ = nI (K.w k) from by rw [hP.1 59 (by decide)]; exact hKq.1) ?_
                  refine v_imul C dX11_shift_356 ?_
                  refine v_eqi (pk_mul _ _) ?_
                  refine v_iload C dX11_shift_357 rfl ?_
                  refine v_icmp_gt 448 C dX11_shift_359 (by decide) (fun h359 => ?_) (fun h359 => ?_)
                  · refine v_drop 12 ?_
                    first
                      | exact tail n (hB.fin hk5 hu hC.1 hE (Or.inl ((nI_ltI (by omega) (by omega)).mp h344)))
                      | exact tail n (hB.fin hk5 hu hC.1 hE (Or.inr ((nI_ltI (by omega) (by omega)).mp h359)))
                  · have hti : t * K.mi k ≤ i := nI_nlt2 h344 (by omega)
                    have htj : t * K.w k ≤ j := nI_nlt2 h359 (by omega)
                    obtain ⟨b, hb, hbJ⟩ := hT (k + 1) (Nat.zero_le _) (by omega) (i - t * K.mi k) (by omega) (j - t * K.w k) (by omega)
                    have hbl := hb.le (by omega)
                    have ht1 : t * 1 ≤ t * K.mi k := Nat.mul_le_mul_left t bm.1
                    obtain ⟨m2, rfl⟩ : ∃ m3, m2 = m3 + 1 := ⟨m2 - 1, by omega⟩
                    refine v_aload_n C dX11_shift_362 rfl ?_
                    refine v_getR 84 C fl_RX11_121 rfl (hs.1 47 _ rfl) (hs.2 47 51 84 rfl) dX11_shift_363 ?_
                    refine v_ldc 240981 C ct_RX11_230 dX11_shift_366 ?_
                    refine v_iload C dX11_shift_368 rfl ?_
                    refine v_iconst 1 C dX11_shift_370 (by decide) ?_
                    refine v_iadd C dX11_shift_371 ?_
                    refine v_eqi (nI_1 k) ?_
                    refine v_imul C dX11_shift_372 ?_
                    refine v_eqi (pk_mul 240981 _) ?_
                    refine v_sipush 501 C dX11_shift_373 (by decide) ?_
                    refine v_iload C dX11_shift_376 rfl ?_
                    refine v_iload C dX11_shift_378 rfl ?_
                    refine v_aload_n C dX11_shift_380 rfl ?_
                    refine v_getR 60 C fl_RX11_47 rfl (hs.1 47 _ rfl) (hs.2 47 20 60 rfl) dX11_shift_381 ?_
                    refine v_iload C dX11_shift_384 rfl ?_
                    refine v_iaload k C (hs.1 60 _ rfl) (at_nI hk5 (by decide)) dX11_shift_386 ?_
                    refine v_eqi (show _ = nI (K.mi k) from by rw [hP.1 60 (by decide)]; exact hKq.2.1) ?_
                    refine v_imul C dX11_shift_387 ?_
                    refine v_eqi (pk_mul _ _) ?_
                    refine v_isub C dX11_shift_388 ?_
                    refine v_eqi (pk_sub hti) ?_
                    refine v_imul C dX11_shift_389 ?_
                    refine v_eqi (pk_mul 501 _) ?_
                    refine v_iadd C dX11_shift_390 ?_
                    refine v_eqi (nI_add _ _) ?_
                    refine v_iload C dX11_shift_391 rfl ?_
                    refine v_iadd C dX11_shift_393 ?_
                    refine v_eqi (nI_add _ _) ?_
                    refine v_iload C dX11_shift_394 rfl ?_
                    refine v_aload_n C dX11_shift_396 rfl ?_
                    refine v_getR 59 C fl_RX11_44 rfl (hs.1 47 _ rfl) (hs.2 47 19 59 rfl) dX11_shift_397 ?_
                    refine v_iload C dX11_shift_400 rfl ?_
                    refine v_iaload k C (hs.1 59 _ rfl) (at_nI hk5 (by decide)) dX11_shift_402 ?_
                    refine v_eqi (show _ = nI (K.w k) from by rw [hP.1 59 (by decide)]; exact hKq.1) ?_
                    refine v_imul C dX11_shift_403 ?_
                    refine v_eqi (pk_mul _ _) ?_
                    refine v_isub C dX11_shift_404 ?_
                    refine v_eqi (show _ = nI (240981 * (k + 1) + 501 * (i - t * K.mi k) + (j - t * K.w k)) from by rw [pk_sub (by omega)]; congr 1; omega) ?_
                    refine v_laload (240981 * (k + 1) + 501 * (i - t * K.mi k) + (j - t * K.w k)) C (hs.1 84 _ rfl) (at_nI (by omega) (by decide)) dX11_shift_405 ?_
                    refine v_eql (show _ = lN b from hbJ) ?_
                    refine v_iload C dX11_shift_406 rfl ?_
                    refine v_i2l C dX11_shift_408 ?_
                    refine v_ldc2 1024 C ct_RX11_234 dX11_shift_409 ?_
                    refine v_aload_n C dX11_shift_412 rfl ?_
                    refine v_getR 61 C fl_RX11_50 rfl (hs.1 47 _ rfl) (hs.2 47 21 61 rfl) dX11_shift_413 ?_
                    refine v_iload C dX11_shift_416 rfl ?_
                    refine v_iaload k C (hs.1 61 _ rfl) (at_nI hk5 (by decide)) dX11_shift_418 ?_
                    refine v_eqi (show _ = nI (K.p k) from by rw [hP.1 61 (by decide)]; exact hKq.2.2) ?_
                    refine v_i2l C dX11_shift_419 ?_
                    refine v_lmul C dX11_shift_420 ?_
                    refine v_aload_n C dX11_shift_421 rfl ?_
                    refine v_getR 60 C fl_RX11_47 rfl (hs.1 47 _ rfl) (hs.2 47 20 60 rfl) dX11_shift_422 ?_
                    refine v_iload C dX11_shift_425 rfl ?_
                    refine v_iaload k C (hs.1 60 _ rfl) (at_nI hk5 (by decide)) dX11_shift_427 ?_
                    refine v_eqi (show _ = nI (K.mi k) from by rw [hP.1 60 (by decide)]; exact hKq.2.1) ?_
                    refine v_i2l C dX11_shift_428 ?_
                    refine v_lsub C dX11_shift_429 ?_
                    refine v_lmul C dX11_shift_430 ?_
                    refine v_eql (show _ = lN (t * K.v k) from lN_v bp.1 bm.2 bp.2 (by omega)) ?_
                    refine v_ladd C dX11_shift_431 ?_
                    refine v_eql (lN_add _ _) ?_
                    refine v_lload C dX11_shift_432 rfl ?_
                    refine v_lcmp C dX11_shift_434 ?_
                    refine v_if_ne 442 C dX11_shift_435 (by decide) (fun h435 => ?_) (fun h435 => ?_)
                    · refine v_iinc (nI (t + 1)) C dX11_shift_442 rfl (nI_1 t) (Nat.le_of_ble_eq_true rfl) rfl ?_
                      refine v_goto 332 C dX11_shift_445 (by decide) ?_
                      first
                        | exact ih m2 t (t + 1) (lt_fuel hfuel) (by omega) (hB.yes hti htj hb he)
                        | exact ih m2 n (t + 1) (lt_fuel hfuel) (by omega) (hB.no hb (fun e => h435 ((lg_cmp_eq _ _).mpr (by rw [e]))))
                    · have he : b + t * K.v k = left := (pk_lEQ (by omega) (by omega)).mp ((lg_cmp_eq _ _).mp h435)
                      refine v_iload C dX11_shift_438 rfl ?_
                      refine v_istore C dX11_shift_440 (Nat.le_of_ble_eq_true rfl) rfl ?_
                      refine v_iinc (nI (t + 1)) C dX11_shift_442 rfl (nI_1 t) (Nat.le_of_ble_eq_true rfl) rfl ?_
                      refine v_goto 332 C dX11_shift_445 (by decide) ?_
                      first
                        | exact ih m2 t (t + 1) (lt_fuel hfuel) (by omega) (hB.yes hti htj hb he)
                        | exact ih m2 n (t + 1) (lt_fuel hfuel) (by omega) (hB.no hb (fun e => h435 ((lg_cmp_eq _ _).mpr (by rw [e]))))
            exact tl (i + 2) (i + 1) 0 1 (Nat.lt_succ_self _) (by omega) BI.start
    refine v_aload_n C dX11_shift_283 rfl ?_
    refine v_getR 84 C fl_RX11_121 rfl (hs.1 47 _ rfl) (hs.2 47 51 84 rfl) dX11_shift_284 ?_
    refine v_sipush 501 C dX11_shift_287 (by decide) ?_
    refine v_iload_n C dX11_shift_290 rfl ?_
    refine v_imul C dX11_shift_291 ?_
    refine v_eqi (pk_mul 501 _) ?_
    refine v_iload_n C dX11_shift_292 rfl ?_
    refine v_iadd C dX11_shift_293 ?_
    refine v_eqi (show _ = nI (240981 * 0 + 501 * M + G) from by rw [nI_add]; congr 1; omega) ?_
    refine v_laload (240981 * 0 + 501 * M + G) C (hs.1 84 _ rfl) (at_nI (by omega) (by decide)) dX11_shift_294 ?_
    refine v_eql (show _ = lN v0 from hv0J) ?_
    refine v_lstore C dX11_shift_295 (Nat.le_of_ble_eq_true rfl) rfl ?_
    refine v_iload_n C dX11_shift_297 rfl ?_
    refine v_istore C dX11_shift_298 (Nat.le_of_ble_eq_true rfl) rfl ?_
    refine v_iload_n C dX11_shift_300 rfl ?_
    refine v_istore C dX11_shift_301 (Nat.le_of_ble_eq_true rfl) rfl ?_
    refine v_lload C dX11_shift_303 rfl ?_
    refine v_lstore C dX11_shift_305 (Nat.le_of_ble_eq_true rfl) rfl ?_
    refine v_iconst 0 C dX11_shift_307 (by decide) ?_
    refine v_istore C dX11_shift_308 (Nat.le_of_ble_eq_true rfl) rfl ?_
    exact kl 6 5 0 M G v0 pz I (by decide) (by omega) (CI.start hv0) ⟨fun _ _ => rfl, fun c hc => absurd hc (Nat.not_lt_zero _)⟩
  have lb : ∀ (fuel : Nat) (m : Nat) (Jb : JM), m < fuel → m ≤ 5 → (∀ a, a ≠ 84 → Jb a = J a) → TF K Jb M G m → V E X (m_Z E X (shmQ sh I J R K M G) 0 0) 0 0 sh I Jb R 85 [some (.ref 47), some (.int (nI M)), some (.int (nI G)), some (.int c), some (.int (nI m - 1)), none, none, none, none, none, none, none, none] [] := by
    intro fuel
    induction fuel with
    | zero => intro m Jb hfuel; exact absurd hfuel (Nat.not_lt_zero _)
    | succ fuel ih =>
      intro m Jb hfuel hm hJb hTb
      refine v_iload C dX11_shift_85 rfl ?_
      refine v_if_lt 283 C dX11_shift_87 (by decide) (fun h87 => ?_) (fun h87 => ?_)
      · obtain rfl := nI_neg h87 (by omega)
        refine v_drop 4 ?_
        exact fin Jb hJb hTb
      · obtain ⟨m, rfl⟩ := nI_nneg h87
        rw [nI_m1]
        have hm5 : m < 5 := by omega
        refine v_iconst 0 C dX11_shift_90 (by decide) ?_
        refine v_istore C dX11_shift_91 (Nat.le_of_ble_eq_true rfl) rfl ?_
        have ihB := ih
        have hfB := hfuel
        have il : ∀ (fuel : Nat) (m2 i : Nat) (Ji : JM), m2 < fuel → i + m2 = M + 1 → (∀ a, a ≠ 84 → Ji a = J a) → TI K Ji M G m i 0 → V E X (m_Z E X (shmQ sh I J R K M G) 0 0) 0 0 sh I Ji R 93 [some (.ref 47), some (.int (nI M)), some (.int (nI G)), some (.int c), some (.int (nI m)), some (.int (nI i)), none, none, none, none, none, none, none] [] := by
          intro fuel
          induction fuel with
          | zero => intro m2 i Ji hfuel; exact absurd hfuel (Nat.not_lt_zero _)
          | succ fuel ih =>
            intro m2 i Ji hfuel hk2 hJi hTi
            refine v_iload C dX11_shift_93 rfl ?_
            refine v_iload_n C dX11_shift_95 rfl ?_
            refine v_icmp_gt 277 C dX11_shift_96 (by decide) (fun h96 => ?_) (fun h96 => ?_)
            · have hin : M < i := (nI_ltI (by omega) (by omega)).mp h96
              obtain rfl : i = M + 1 := by omega
              refine v_drop 5 ?_
              refine v_iinc (nI m - 1) C dX11_shift_277 rfl (nI_decm m) (Nat.le_of_ble_eq_true rfl) rfl ?_
              refine v_goto 85 C dX11_shift_280 (by decide) ?_
              exact ihB m Ji (by omega) (by omega) hJi hTi.full
            · have hiM : i ≤ M := nI_nlt2 h96 (by omega)
              obtain ⟨m2, rfl⟩ : ∃ m3, m2 = m3 + 1 := ⟨m2 - 1, by omega⟩
              refine v_iconst 0 C dX11_shift_99 (by decide) ?_
              refine v_istore C dX11_shift_100 (Nat.le_of_ble_eq_true rfl) rfl ?_
              have ihI := ih
              have hfI := hfuel
              have jl : ∀ (fuel : Nat) (m3 j : Nat) (Jj : JM), m3 < fuel → j + m3 = G + 1 → (∀ a, a ≠ 84 → Jj a = J a) → TI K Jj M G m i j → V E X (m_Z E X (shmQ sh I J R K M G) 0 0) 0 0 sh I Jj R 102 [some (.ref 47), some (.int (nI M)), some (.int (nI G)), some (.int c), some (.int (nI m)), some (.int (nI i)), some (.int (nI j)), none, none, none, none, none, none] [] := by
                intro fuel
                induction fuel with
                | zero => intro m3 j Jj hfuel; exact absurd hfuel (Nat.not_lt_zero _)
                | succ fuel ih =>
                  intro m3 j Jj hfuel hk3 hJj hTj
                  refine v_iload C dX11_shift_102 rfl ?_
                  refine v_iload_n C dX11_shift_104 rfl ?_
                  refine v_icmp_gt 271 C dX11_shift_105 (by decide) (fun h105 => ?_) (fun h105 => ?_)
                  · have hjn : G < j := (nI_ltI (by omega) (by omega)).mp h105
                    obtain rfl : j = G + 1 := by omega
                    refine v_drop 6 ?_
                    refine v_iinc (nI (i + 1)) C dX11_shift_271 rfl (nI_1 i) (Nat.le_of_ble_eq_true rfl) rfl ?_
                    refine v_goto 93 C dX11_shift_274 (by decide) ?_
                    exact ihI m2 (i + 1) Jj (lt_fuel hfI) (by omega) hJj hTj.row
                  · have hjG : j ≤ G := nI_nlt2 h105 (by omega)
                    obtain ⟨m3, rfl⟩ : ∃ m4, m3 = m4 + 1 := ⟨m3 - 1, by omega⟩
                    obtain ⟨a, ha, haJ⟩ := hTj.1 (m + 1) (Nat.le_refl _) (by omega) i hiM j hjG
                    have hal := ha.le (by omega)
                    refine v_aload_n C dX11_shift_108 rfl ?_
                    refine v_getR 84 C fl_RX11_121 rfl (hs.1 47 _ rfl) (hs.2 47 51 84 rfl) dX11_shift_109 ?_
                    refine v_ldc 240981 C ct_RX11_230 dX11_shift_112 ?_
                    refine v_iload C dX11_shift_114 rfl ?_
                    refine v_iconst 1 C dX11_shift_116 (by decide) ?_
                    refine v_iadd C dX11_shift_117 ?_
                    refine v_eqi (nI_1 m) ?_
                    refine v_imul C dX11_shift_118 ?_
                    refine v_eqi (pk_mul 240981 _) ?_
                    refine v_sipush 501 C dX11_shift_119 (by decide) ?_
                    refine v_iload C dX11_shift_122 rfl ?_
                    refine v_imul C dX11_shift_124 ?_
                    refine v_eqi (pk_mul 501 _) ?_
                    refine v_iadd C dX11_shift_125 ?_
                    refine v_eqi (nI_add _ _) ?_
                    refine v_iload C dX11_shift_126 rfl ?_
                    refine v_iadd C dX11_shift_128 ?_
                    refine v_eqi (nI_add _ _) ?_
                    refine v_laload (240981 * (m + 1) + 501 * i + j) C (hs.1 84 _ rfl) (at_nI (by omega) (by decide)) dX11_shift_129 ?_
                    refine v_eql (show _ = lN a from haJ) ?_
                    refine v_lstore C dX11_shift_130 (Nat.le_of_ble_eq_true rfl) rfl ?_
                    refine v_aload_n C dX11_shift_132 rfl ?_
                    refine v_iload C dX11_shift_133 rfl ?_
                    refine v_iload_n C dX11_shift_135 rfl ?_
                    refine v_callVi C (c_X11_isOf hs (at_nI hm5 (by decide))) mt_X11_isOf lk_RX11_231 rfl rfl (hs.1 47 _ rfl) rfl rfl rfl rfl rfl dX11_shift_136 ?_
                    refine v_if_eq 243 C dX11_shift_139 (by decide) (fun h139 => ?_) (fun h139 => ?_)
                    · refine v_aload_n C dX11_shift_243 rfl ?_
                      refine v_getR 84 C fl_RX11_121 rfl (hs.1 47 _ rfl) (hs.2 47 51 84 rfl) dX11_shift_244 ?_
                      refine v_ldc 240981 C ct_RX11_230 dX11_shift_247 ?_
                      refine v_iload C dX11_shift_249 rfl ?_
                      refine v_imul C dX11_shift_251 ?_
                      refine v_eqi (pk_mul 240981 _) ?_
                      refine v_sipush 501 C dX11_shift_252 (by decide) ?_
                      refine v_iload C dX11_shift_255 rfl ?_
                      refine v_imul C dX11_shift_257 ?_
                      refine v_eqi (pk_mul 501 _) ?_
                      refine v_iadd C dX11_shift_258 ?_
                      refine v_eqi (nI_add _ _) ?_
                      refine v_iload C dX11_shift_259 rfl ?_
                      refine v_iadd C dX11_shift_261 ?_
                      refine v_eqi (nI_add _ _) ?_
                      refine v_lload C dX11_shift_262 rfl ?_
                      refine v_lastore (240981 * m + 501 * i + j) C (hs.1 84 _ rfl) (at_nI (by omega) (by decide)) dX11_shift_264 ?_
                      refine v_iinc (nI (j + 1)) C dX11_shift_265 rfl (nI_1 j) (Nat.le_of_ble_eq_true rfl) rfl ?_
                      refine v_goto 102 C dX11_shift_268 (by decide) ?_
                      refine v_drop 7 ?_
                      refine v_drop 9 ?_
                      first
                        | exact ih m3 (j + 1) _ (lt_fuel hfuel) (by omega) (fun a ha' => by rw [ju_ne' ha']; exact hJj a ha') (hTj.put hM hG hiM hjG hvx)
                        | exact ih m3 (j + 1) _ (lt_fuel hfuel) (by omega) (fun a ha' => by rw [ju_ne' ha']; exact hJj a ha') (hTj.put hM hG hiM hjG (ha.skip (hK.u0 hm5 h139)))
                        | exact ih m3 (j + 1) _ (lt_fuel hfuel) (by omega) (fun a ha' => by rw [ju_ne' ha']; exact hJj a ha') (hTj.put hM hG hiM hjG (ha.nofit (fun f => absurd h151 (Int32.not_lt.mpr (nI_le f.1 (by omega))))))
                        | exact ih m3 (j + 1) _ (lt_fuel hfuel) (by omega) (fun a ha' => by rw [ju_ne' ha']; exact hJj a ha') (hTj.put hM hG hiM hjG (ha.nofit (fun f => absurd h163 (Int32.not_lt.mpr (nI_le f.2 (by omega))))))
                    · have hu := hK.u1 hm5 h139
                      have hKq := (hK m hm5).2 hu
                      have bw := K.hw _ hu
                      have bm := K.hm _ hu
                      have bp := K.hp _ hu
                      have bv := K.v_pos hu
                      refine v_iload C dX11_shift_142 rfl ?_
                      refine v_aload_n C dX11_shift_144 rfl ?_
                      refine v_getR 60 C fl_RX11_47 rfl (hs.1 47 _ rfl) (hs.2 47 20 60 rfl) dX11_shift_145 ?_
                      refine v_iload C dX11_shift_148 rfl ?_
                      refine v_iaload m C (hs.1 60 _ rfl) (at_nI hm5 (by decide)) dX11_shift_150 ?_
                      refine v_eqi (show _ = nI (K.mi m) from hKq.2.1) ?_
                      refine v_icmp_lt 243 C dX11_shift_151 (by decide) (fun h151 => ?_) (fun h151 => ?_)
                      · refine v_aload_n C dX11_shift_243 rfl ?_
                        refine v_getR 84 C fl_RX11_121 rfl (hs.1 47 _ rfl) (hs.2 47 51 84 rfl) dX11_shift_244 ?_
                        refine v_ldc 240981 C ct_RX11_230 dX11_shift_247 ?_
                        refine v_iload C dX11_shift_249 rfl ?_
                        refine v_imul C dX11_shift_251 ?_
                        refine v_eqi (pk_mul 240981 _) ?_
                        refine v_sipush 501 C dX11_shift_252 (by decide) ?_
                        refine v_iload C dX11_shift_255 rfl ?_
                        refine v_imul C dX11_shift_257 ?_
                        refine v_eqi (pk_mul 501 _) ?_
                        refine v_iadd C dX11_shift_258 ?_
                        refine v_eqi (nI_add _ _) ?_
                        refine v_iload C dX11_shift_259 rfl ?_
                        refine v_iadd C dX11_shift_261 ?_
                        refine v_eqi (nI_add _ _) ?_
                        refine v_lload C dX11_shift_262 rfl ?_
                        refine v_lastore (240981 * m + 501 * i + j) C (hs.1 84 _ rfl) (at_nI (by omega) (by decide)) dX11_shift_264 ?_
                        refine v_iinc (nI (j + 1)) C dX11_shift_265 rfl (nI_1 j) (Nat.le_of_ble_eq_true rfl) rfl ?_
                        refine v_goto 102 C dX11_shift_268 (by decide) ?_
                        refine v_drop 7 ?_
                        refine v_drop 9 ?_
                        first
                          | exact ih m3 (j + 1) _ (lt_fuel hfuel) (by omega) (fun a ha' => by rw [ju_ne' ha']; exact hJj a ha') (hTj.put hM hG hiM hjG hvx)
                          | exact ih m3 (j + 1) _ (lt_fuel hfuel) (by omega) (fun a ha' => by rw [ju_ne' ha']; exact hJj a ha') (hTj.put hM hG hiM hjG (ha.skip (hK.u0 hm5 h139)))
                          | exact ih m3 (j + 1) _ (lt_fuel hfuel) (by omega) (fun a ha' => by rw [ju_ne' ha']; exact hJj a ha') (hTj.put hM hG hiM hjG (ha.nofit (fun f => absurd h151 (Int32.not_lt.mpr (nI_le f.1 (by omega))))))
                          | exact ih m3 (j + 1) _ (lt_fuel hfuel) (by omega) (fun a ha' => by rw [ju_ne' ha']; exact hJj a ha') (hTj.put hM hG hiM hjG (ha.nofit (fun f => absurd h163 (Int32.not_lt.mpr (nI_le f.2 (by omega))))))
                      · refine v_iload C dX11_shift_154 rfl ?_
                        refine v_aload_n C dX11_shift_156 rfl ?_
                        refine v_getR 59 C fl_RX11_44 rfl (hs.1 47 _ rfl) (hs.2 47 19 59 rfl) dX11_shift_157 ?_
                        refine v_iload C dX11_shift_160 rfl ?_
                        refine v_iaload m C (hs.1 59 _ rfl) (at_nI hm5 (by decide)) dX11_shift_162 ?_
                        refine v_eqi (show _ = nI (K.w m) from hKq.1) ?_
                        refine v_icmp_lt 243 C dX11_shift_163 (by decide) (fun h163 => ?_) (fun h163 => ?_)
                        · refine v_aload_n C dX11_shift_243 rfl ?_
                          refine v_getR 84 C fl_RX11_121 rfl (hs.1 47 _ rfl) (hs.2 47 51 84 rfl) dX11_shift_244 ?_
                          refine v_ldc 240981 C ct_RX11_230 dX11_shift_247 ?_
                          refine v_iload C dX11_shift_249 rfl ?_
                          refine v_imul C dX11_shift_251 ?_
                          refine v_eqi (pk_mul 240981 _) ?_
                          refine v_sipush 501 C dX11_shift_252 (by decide) ?_
                          refine v_iload C dX11_shift_255 rfl ?_
                          refine v_imul C dX11_shift_257 ?_
                          refine v_eqi (pk_mul 501 _) ?_
                          refine v_iadd C dX11_shift_258 ?_
                          refine v_eqi (nI_add _ _) ?_
                          refine v_iload C dX11_shift_259 rfl ?_
                          refine v_iadd C dX11_shift_261 ?_
                          refine v_eqi (nI_add _ _) ?_
                          refine v_lload C dX11_shift_262 rfl ?_
                          refine v_lastore (240981 * m + 501 * i + j) C (hs.1 84 _ rfl) (at_nI (by omega) (by decide)) dX11_shift_264 ?_
                          refine v_iinc (nI (j + 1)) C dX11_shift_265 rfl (nI_1 j) (Nat.le_of_ble_eq_true rfl) rfl ?_
                          refine v_goto 102 C dX11_shift_268 (by decide) ?_
                          refine v_drop 7 ?_
                          refine v_drop 9 ?_
                          first
                            | exact ih m3 (j + 1) _ (lt_fuel hfuel) (by omega) (fun a ha' => by rw [ju_ne' ha']; exact hJj a ha') (hTj.put hM hG hiM hjG hvx)
                            | exact ih m3 (j + 1) _ (lt_fuel hfuel) (by omega) (fun a ha' => by rw [ju_ne' ha']; exact hJj a ha') (hTj.put hM hG hiM hjG (ha.skip (hK.u0 hm5 h139)))
                            | exact ih m3 (j + 1) _ (lt_fuel hfuel) (by omega) (fun a ha' => by rw [ju_ne' ha']; exact hJj a ha') (hTj.put hM hG hiM hjG (ha.nofit (fun f => absurd h151 (Int32.not_lt.mpr (nI_le f.1 (by omega))))))
                            | exact ih m3 (j + 1) _ (lt_fuel hfuel) (by omega) (fun a ha' => by rw [ju_ne' ha']; exact hJj a ha') (hTj.put hM hG hiM hjG (ha.nofit (fun f => absurd h163 (Int32.not_lt.mpr (nI_le f.2 (by omega))))))
                        · have hmi : K.mi m ≤ i := nI_nlt2 h151 (by omega)
                          have hwj : K.w m ≤ j := nI_nlt2 h163 (by omega)
                          obtain ⟨b, hb, hbJ⟩ := hTj.2.1 (i - K.mi m) (by omega) (j - K.w m) (by omega)
                          have hbl := hb.le (by omega)
                          refine v_aload_n C dX11_shift_166 rfl ?_
                          refine v_getR 84 C fl_RX11_121 rfl (hs.1 47 _ rfl) (hs.2 47 51 84 rfl) dX11_shift_167 ?_
                          refine v_ldc 240981 C ct_RX11_230 dX11_shift_170 ?_
                          refine v_iload C dX11_shift_172 rfl ?_
                          refine v_imul C dX11_shift_174 ?_
                          refine v_eqi (pk_mul 240981 _) ?_
                          refine v_sipush 501 C dX11_shift_175 (by decide) ?_
                          refine v_iload C dX11_shift_178 rfl ?_
                          refine v_aload_n C dX11_shift_180 rfl ?_
                          refine v_getR 60 C fl_RX11_47 rfl (hs.1 47 _ rfl) (hs.2 47 20 60 rfl) dX11_shift_181 ?_
                          refine v_iload C dX11_shift_184 rfl ?_
                          refine v_iaload m C (hs.1 60 _ rfl) (at_nI hm5 (by decide)) dX11_shift_186 ?_
                          refine v_eqi (show _ = nI (K.mi m) from hKq.2.1) ?_
                          refine v_isub C dX11_shift_187 ?_
                          refine v_eqi (pk_sub hmi) ?_
                          refine v_imul C dX11_shift_188 ?_
                          refine v_eqi (pk_mul 501 _) ?_
                          refine v_iadd C dX11_shift_189 ?_
                          refine v_eqi (nI_add _ _) ?_
                          refine v_iload C dX11_shift_190 rfl ?_
                          refine v_iadd C dX11_shift_192 ?_
                          refine v_eqi (nI_add _ _) ?_
                          refine v_aload_n C dX11_shift_193 rfl ?_
                          refine v_getR 59 C fl_RX11_44 rfl (hs.1 47 _ rfl) (hs.2 47 19 59 rfl) dX11_shift_194 ?_
                          refine v_iload C dX11_shift_197 rfl ?_
                          refine v_iaload m C (hs.1 59 _ rfl) (at_nI hm5 (by decide)) dX11_shift_199 ?_
                          refine v_eqi (show _ = nI (K.w m) from hKq.1) ?_
                          refine v_isub C dX11_shift_200 ?_
                          refine v_eqi (show _ = nI (240981 * m + 501 * (i - K.mi m) + (j - K.w m)) from by rw [pk_sub (by omega)]; congr 1; omega) ?_
                          refine v_laload (240981 * m + 501 * (i - K.mi m) + (j - K.w m)) C (hs.1 84 _ rfl) (at_nI (by omega) (by decide)) dX11_shift_201 ?_
                          refine v_eql (show _ = lN b from hbJ) ?_
                          refine v_ldc2 1024 C ct_RX11_234 dX11_shift_202 ?_
                          refine v_aload_n C dX11_shift_205 rfl ?_
                          refine v_getR 61 C fl_RX11_50 rfl (hs.1 47 _ rfl) (hs.2 47 21 61 rfl) dX11_shift_206 ?_
                          refine v_iload C dX11_shift_209 rfl ?_
                          refine v_iaload m C (hs.1 61 _ rfl) (at_nI hm5 (by decide)) dX11_shift_211 ?_
                          refine v_eqi (show _ = nI (K.p m) from hKq.2.2) ?_
                          refine v_i2l C dX11_shift_212 ?_
                          refine v_lmul C dX11_shift_213 ?_
                          refine v_ladd C dX11_shift_214 ?_
                          refine v_aload_n C dX11_shift_215 rfl ?_
                          refine v_getR 60 C fl_RX11_47 rfl (hs.1 47 _ rfl) (hs.2 47 20 60 rfl) dX11_shift_216 ?_
                          refine v_iload C dX11_shift_219 rfl ?_
                          refine v_iaload m C (hs.1 60 _ rfl) (at_nI hm5 (by decide)) dX11_shift_221 ?_
                          refine v_eqi (show _ = nI (K.mi m) from hKq.2.1) ?_
                          refine v_i2l C dX11_shift_222 ?_
                          refine v_lsub C dX11_shift_223 ?_
                          refine v_eql (show _ = lN (b + K.v m) from sumLm bp.2 bm.2 bp.1) ?_
                          refine v_lstore C dX11_shift_224 (Nat.le_of_ble_eq_true rfl) rfl ?_
                          refine v_lload C dX11_shift_226 rfl ?_
                          refine v_lload C dX11_shift_228 rfl ?_
                          refine v_lcmp C dX11_shift_230 ?_
                          refine v_if_le 239 C dX11_shift_231 (by decide) (fun h231 => ?_) (fun h231 => ?_)
                          · have hvx := Vx.fit hm5 hu ⟨hmi, hwj⟩ ha hb
                            rw [if_neg (Nat.not_lt.mpr ((pk_lLE (by omega) (by omega)).mp ((lg_cmp_le _ _).mp h231)))] at hvx
                            refine v_lload C dX11_shift_239 rfl ?_
                            refine v_lstore C dX11_shift_241 (Nat.le_of_ble_eq_true rfl) rfl ?_
                            refine v_aload_n C dX11_shift_243 rfl ?_
                            refine v_getR 84 C fl_RX11_121 rfl (hs.1 47 _ rfl) (hs.2 47 51 84 rfl) dX11_shift_244 ?_
                            refine v_ldc 240981 C ct_RX11_230 dX11_shift_247 ?_
                            refine v_iload C dX11_shift_249 rfl ?_
                            refine v_imul C dX11_shift_251 ?_
                            refine v_eqi (pk_mul 240981 _) ?_
                            refine v_sipush 501 C dX11_shift_252 (by decide) ?_
                            refine v_iload C dX11_shift_255 rfl ?_
                            refine v_imul C dX11_shift_257 ?_
                            refine v_eqi (pk_mul 501 _) ?_
                            refine v_iadd C dX11_shift_258 ?_
                            refine v_eqi (nI_add _ _) ?_
                            refine v_iload C dX11_shift_259 rfl ?_
                            refine v_iadd C dX11_shift_261 ?_
                            refine v_eqi (nI_add _ _) ?_
                            refine v_lload C dX11_shift_262 rfl ?_
                            refine v_lastore (240981 * m + 501 * i + j) C (hs.1 84 _ rfl) (at_nI (by omega) (by decide)) dX11_shift_264 ?_
                            refine v_iinc (nI (j + 1)) C dX11_shift_265 rfl (nI_1 j) (Nat.le_of_ble_eq_true rfl) rfl ?_
                            refine v_goto 102 C dX11_shift_268 (by decide) ?_
                            refine v_drop 7 ?_
                            refine v_drop 9 ?_
                            first
                              | exact ih m3 (j + 1) _ (lt_fuel hfuel) (by omega) (fun a ha' => by rw [ju_ne' ha']; exact hJj a ha') (hTj.put hM hG hiM hjG hvx)
                              | exact ih m3 (j + 1) _ (lt_fuel hfuel) (by omega) (fun a ha' => by rw [ju_ne' ha']; exact hJj a ha') (hTj.put hM hG hiM hjG (ha.skip (hK.u0 hm5 h139)))
                              | exact ih m3 (j + 1) _ (lt_fuel hfuel) (by omega) (fun a ha' => by rw [ju_ne' ha']; exact hJj a ha') (hTj.put hM hG hiM hjG (ha.nofit (fun f => absurd h151 (Int32.not_lt.mpr (nI_le f.1 (by omega))))))
                              | exact ih m3 (j + 1) _ (lt_fuel hfuel) (by omega) (fun a ha' => by rw [ju_ne' ha']; exact hJj a ha') (hTj.put hM hG hiM hjG (ha.nofit (fun f => absurd h163 (Int32.not_lt.mpr (nI_le f.2 (by omega))))))
                          · have hvx := Vx.fit hm5 hu ⟨hmi, hwj⟩ ha hb
                            rw [if_pos ((pk_lLT (by omega) (by omega)).mp (Int64.not_le.mp (fun r => h231 ((lg_cmp_le _ _).mpr r))))] at hvx
                            refine v_lload C dX11_shift_234 rfl ?_
                            refine v_goto 241 C dX11_shift_236 (by decide) ?_
                            refine v_lstore C dX11_shift_241 (Nat.le_of_ble_eq_true rfl) rfl ?_
                            refine v_aload_n C dX11_shift_243 rfl ?_
                            refine v_getR 84 C fl_RX11_121 rfl (hs.1 47 _ rfl) (hs.2 47 51 84 rfl) dX11_shift_244 ?_
                            refine v_ldc 240981 C ct_RX11_230 dX11_shift_247 ?_
                            refine v_iload C dX11_shift_249 rfl ?_
                            refine v_imul C dX11_shift_251 ?_
                            refine v_eqi (pk_mul 240981 _) ?_
                            refine v_sipush 501 C dX11_shift_252 (by decide) ?_
                            refine v_iload C dX11_shift_255 rfl ?_
                            refine v_imul C dX11_shift_257 ?_
                            refine v_eqi (pk_mul 501 _) ?_
                            refine v_iadd C dX11_shift_258 ?_
                            refine v_eqi (nI_add _ _) ?_
                            refine v_iload C dX11_shift_259 rfl ?_
                            refine v_iadd C dX11_shift_261 ?_
                            refine v_eqi (nI_add _ _) ?_
                            refine v_lload C dX11_shift_262 rfl ?_
                            refine v_lastore (240981 * m + 501 * i + j) C (hs.1 84 _ rfl) (at_nI (by omega) (by decide)) dX11_shift_264 ?_
                            refine v_iinc (nI (j + 1)) C dX11_shift_265 rfl (nI_1 j) (Nat.le_of_ble_eq_true rfl) rfl ?_
                            refine v_goto 102 C dX11_shift_268 (by decide) ?_
                            refine v_drop 7 ?_
                            refine v_drop 9 ?_
                            first
                              | exact ih m3 (j + 1) _ (lt_fuel hfuel) (by omega) (fun a ha' => by rw [ju_ne' ha']; exact hJj a ha') (hTj.put hM hG hiM hjG hvx)
                              | exact ih m3 (j + 1) _ (lt_fuel hfuel) (by omega) (fun a ha' => by rw [ju_ne' ha']; exact hJj a ha') (hTj.put hM hG hiM hjG (ha.skip (hK.u0 hm5 h139)))
                              | exact ih m3 (j + 1) _ (lt_fuel hfuel) (by omega) (fun a ha' => by rw [ju_ne' ha']; exact hJj a ha') (hTj.put hM hG hiM hjG (ha.nofit (fun f => absurd h151 (Int32.not_lt.mpr (nI_le f.1 (by omega))))))
                              | exact ih m3 (j + 1) _ (lt_fuel hfuel) (by omega) (fun a ha' => by rw [ju_ne' ha']; exact hJj a ha') (hTj.put hM hG hiM hjG (ha.nofit (fun f => absurd h163 (Int32.not_lt.mpr (nI_le f.2 (by omega))))))
              exact jl (G + 2) (G + 1) 0 Ji (Nat.lt_succ_self _) (by omega) hJi hTi
        exact il (M + 2) (M + 1) 0 Jb (Nat.lt_succ_self _) (by omega) hJb hTb.start
  have la : ∀ (fuel : Nat) (m2 i : Nat) (Ji : JM), m2 < fuel → i + m2 = M + 1 → (∀ a, a ≠ 84 → Ji a = J a) → TI K Ji M G 5 i 0 → V E X (m_Z E X (shmQ sh I J R K M G) 0 0) 0 0 sh I Ji R 37 [some (.ref 47), some (.int (nI M)), some (.int (nI G)), some (.int c), some (.int (nI i)), none, none, none, none, none, none, none, none] [] := by
    intro fuel
    induction fuel with
    | zero => intro m2 i Ji hfuel; exact absurd hfuel (Nat.not_lt_zero _)
    | succ fuel ih =>
      intro m2 i Ji hfuel hk2 hJi hTi
      refine v_iload C dX11_shift_37 rfl ?_
      refine v_iload_n C dX11_shift_39 rfl ?_
      refine v_icmp_gt 82 C dX11_shift_40 (by decide) (fun h40 => ?_) (fun h40 => ?_)
      · have hin : M < i := (nI_ltI (by omega) (by omega)).mp h40
        obtain rfl : i = M + 1 := by omega
        refine v_drop 4 ?_
        refine v_iconst 4 C dX11_shift_82 (by decide) ?_
        refine v_istore C dX11_shift_83 (Nat.le_of_ble_eq_true rfl) rfl ?_
        refine v_lv (show _ = [some (.ref 47), some (.int (nI M)), some (.int (nI G)), some (.int c), some (.int (nI 5 - 1)), none, none, none, none, none, none, none, none] by simp only [show nI 5 - 1 = (4 : Int32) from by decide]; try rfl) ?_
        exact lb 6 5 Ji (by decide) (by decide) hJi hTi.full
      · have hiM : i ≤ M := nI_nlt2 h40 (by omega)
        obtain ⟨m2, rfl⟩ : ∃ m3, m2 = m3 + 1 := ⟨m2 - 1, by omega⟩
        refine v_iconst 0 C dX11_shift_43 (by decide) ?_
        refine v_istore C dX11_shift_44 (Nat.le_of_ble_eq_true rfl) rfl ?_
        have ihI := ih
        have hfI := hfuel
        have lj : ∀ (fuel : Nat) (m3 j : Nat) (Jj : JM), m3 < fuel → j + m3 = G + 1 → (∀ a, a ≠ 84 → Jj a = J a) → TI K Jj M G 5 i j → V E X (m_Z E X (shmQ sh I J R K M G) 0 0) 0 0 sh I Jj R 46 [some (.ref 47), some (.int (nI M)), some (.int (nI G)), some (.int c), some (.int (nI i)), some (.int (nI j)), none, none, none, none, none, none, none] [] := by
          intro fuel
          induction fuel with
          | zero => intro m3 j Jj hfuel; exact absurd hfuel (Nat.not_lt_zero _)
          | succ fuel ih =>
            intro m3 j Jj hfuel hk3 hJj hTj
            refine v_iload C dX11_shift_46 rfl ?_
            refine v_iload_n C dX11_shift_48 rfl ?_
            refine v_icmp_gt 76 C dX11_shift_49 (by decide) (fun h49 => ?_) (fun h49 => ?_)
            · have hjn : G < j := (nI_ltI (by omega) (by omega)).mp h49
              obtain rfl : j = G + 1 := by omega
              refine v_drop 5 ?_
              refine v_iinc (nI (i + 1)) C dX11_shift_76 rfl (nI_1 i) (Nat.le_of_ble_eq_true rfl) rfl ?_
              refine v_goto 37 C dX11_shift_79 (by decide) ?_
              exact ihI m2 (i + 1) Jj (lt_fuel hfI) (by omega) hJj hTj.row
            · have hjG : j ≤ G := nI_nlt2 h49 (by omega)
              obtain ⟨m3, rfl⟩ : ∃ m4, m3 = m4 + 1 := ⟨m3 - 1, by omega⟩
              refine v_aload_n C dX11_shift_52 rfl ?_
              refine v_getR 84 C fl_RX11_121 rfl (hs.1 47 _ rfl) (hs.2 47 51 84 rfl) dX11_shift_53 ?_
              refine v_ldc 1204905 C ct_RX11_229 dX11_shift_56 ?_
              refine v_sipush 501 C dX11_shift_58 (by decide) ?_
              refine v_iload C dX11_shift_61 rfl ?_
              refine v_imul C dX11_shift_63 ?_
              refine v_eqi (pk_mul 501 _) ?_
              refine v_iadd C dX11_shift_64 ?_
              refine v_eqi (show _ = nI (240981 * 5 + 501 * i) from nI_add _ _) ?_
              refine v_iload C dX11_shift_65 rfl ?_
              refine v_iadd C dX11_shift_67 ?_
              refine v_eqi (nI_add _ _) ?_
              refine v_lconst 0 C dX11_shift_68 (by decide) ?_
              refine v_lastore (240981 * 5 + 501 * i + j) C (hs.1 84 _ rfl) (at_nI (by omega) (by decide)) dX11_shift_69 ?_
              refine v_iinc (nI (j + 1)) C dX11_shift_70 rfl (nI_1 j) (Nat.le_of_ble_eq_true rfl) rfl ?_
              refine v_goto 46 C dX11_shift_73 (by decide) ?_
              exact ih m3 (j + 1) _ (lt_fuel hfuel) (by omega) (fun a ha' => by rw [ju_ne' ha']; exact hJj a ha') (hTj.put (v := 0) hM hG hiM hjG Vx.five)
        exact lj (G + 2) (G + 1) 0 Ji (Nat.lt_succ_self _) (by omega) hJi hTi
  refine v_iload_n C dX11_shift_0 rfl ?_
  refine v_iconst 0 C dX11_shift_1 (by decide) ?_
  refine v_sipush 480 C dX11_shift_2 (by decide) ?_
  refine v_callSi C c_X11_in mt_X11_in lk_RX11_140 rfl rfl rfl rfl rfl dX11_shift_5 ?_
  refine v_if_eq 32 C dX11_shift_8 (by decide) (fun h8 => False.elim (wI_le hM (by decide) h8)) (fun h8 => ?_)
  refine v_iload_n C dX11_shift_11 rfl ?_
  refine v_iconst 0 C dX11_shift_12 (by decide) ?_
  refine v_sipush 500 C dX11_shift_13 (by decide) ?_
  refine v_callSi C c_X11_in mt_X11_in lk_RX11_140 rfl rfl rfl rfl rfl dX11_shift_16 ?_
  refine v_if_eq 32 C dX11_shift_19 (by decide) (fun h19 => False.elim (wI_le hG (by decide) h19)) (fun h19 => ?_)
  refine v_iload_n C dX11_shift_22 rfl ?_
  refine v_iconst 0 C dX11_shift_23 (by decide) ?_
  refine v_bipush 7 C dX11_shift_24 (by decide) ?_
  refine v_callSi C c_X11_in mt_X11_in lk_RX11_140 rfl rfl rfl rfl rfl dX11_shift_26 ?_
  refine v_if_ne 34 C dX11_shift_29 (by decide) (fun h29 => ?_) (fun h29 => False.elim (hc7 h29))
  refine v_iconst 0 C dX11_shift_34 (by decide) ?_
  refine v_istore C dX11_shift_35 (Nat.le_of_ble_eq_true rfl) rfl ?_
  exact la (M + 2) (M + 1) 0 J (Nat.lt_succ_self _) (by omega) (fun _ _ => rfl) TF.six.start

set_option maxHeartbeats 4000000 in
set_option maxRecDepth 100000 in
theorem c_X11_shiftF {lnc : Launch} {E : En} {sh : List Sh} {I : IM} {J : JM} {R : RM} {m g c : Int32} (hs : St sh R) (hw : wI m 0 480 = 0 ∨ wI g 0 500 = 0 ∨ wI c 0 7 = 0) : Ct lnc E yX11_shift cX11_shift 13 (some .int) 1 22 [.ref 47, .int m, .int g, .int c] sh I J R 0 0 (m_ret (some (.int (-1))) sh I J R) := by
  refine Ct.of (lv := [some (.ref 47), some (.int m), some (.int g), some (.int c), none, none, none, none, none, none, none, none, none]) (by decide) (Nat.le_of_ble_eq_true rfl) rfl (fun X hX C => ?_)
  refine v_iload_n C dX11_shift_0 rfl ?_
  refine v_iconst 0 C dX11_shift_1 (by decide) ?_
  refine v_sipush 480 C dX11_shift_2 (by decide) ?_
  refine v_callSi C c_X11_in mt_X11_in lk_RX11_140 rfl rfl rfl rfl rfl dX11_shift_5 ?_
  refine v_if_eq 32 C dX11_shift_8 (by decide) (fun h8 => ?_) (fun h8 => ?_)
  · refine v_iconst (-1) C dX11_shift_32 (by decide) ?_
    exact v_iret C dX11_shift_33 m_ret_rf
  · refine v_iload_n C dX11_shift_11 rfl ?_
    refine v_iconst 0 C dX11_shift_12 (by decide) ?_
    refine v_sipush 500 C dX11_shift_13 (by decide) ?_
    refine v_callSi C c_X11_in mt_X11_in lk_RX11_140 rfl rfl rfl rfl rfl dX11_shift_16 ?_
    refine v_if_eq 32 C dX11_shift_19 (by decide) (fun h19 => ?_) (fun h19 => ?_)
    · refine v_iconst (-1) C dX11_shift_32 (by decide) ?_
      exact v_iret C dX11_shift_33 m_ret_rf
    · refine v_iload_n C dX11_shift_22 rfl ?_
      refine v_iconst 0 C dX11_shift_23 (by decide) ?_
      refine v_bipush 7 C dX11_shift_24 (by decide) ?_
      refine v_callSi C c_X11_in mt_X11_in lk_RX11_140 rfl rfl rfl rfl rfl dX11_shift_26 ?_
      refine v_if_ne 34 C dX11_shift_29 (by decide) (fun h29 => ?_) (fun h29 => ?_)
      · rcases hw with hw | hw | hw
        · exact absurd hw h8
        · exact absurd hw h19
        · exact absurd hw h29
      · refine v_iconst (-1) C dX11_shift_32 (by decide) ?_
        exact v_iret C dX11_shift_33 m_ret_rf
