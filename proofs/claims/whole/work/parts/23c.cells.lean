set_option maxHeartbeats 4000000 in
set_option maxRecDepth 100000 in
theorem c_X8_findUsable {lnc : Launch} {E : En} {sh : List Sh} {I : IM} {J : JM} {R : RM} {c : Int32} {K : Kd} (hs : St sh R) (hK : KC I c K) : Ct lnc E yX8_findUsable cX8_findUsable 4 none 1 21 [.ref 39, .ref 24, .int c] sh I J R 0 0 (fuQ sh I J R K) := by
  refine Ct.of (lv := [some (.ref 39), some (.ref 24), some (.int c), none]) (by decide) (Nat.le_of_ble_eq_true rfl) rfl (fun X hX C => ?_)
  have loop : ∀ (fuel : Nat) (m k U : Nat) (q : Nat → Nat) (Ii : IM), m < fuel → k + m = 5 → FU I Ii K q U k → V E X (m_Z E X (fuQ sh I J R K) 0 0) 0 0 sh Ii J R 7 [some (.ref 39), some (.ref 24), some (.int c), some (.int (nI k))] [] := by
    intro fuel
    induction fuel with
    | zero => intro m k U q Ii hfuel; exact absurd hfuel (Nat.not_lt_zero _)
    | succ fuel ih =>
      intro m k U q Ii hfuel hk hF
      refine v_iload_n C dX8_findUsable_7 rfl ?_
      refine v_iconst 5 C dX8_findUsable_8 (by decide) ?_
      refine v_icmp_ge 48 C dX8_findUsable_9 (by decide) (fun h9 => ?_) (fun h9 => ?_)
      · have hkn := nI_le_of (n := 5) h9 (by omega) (by decide)
        obtain rfl : k = 5 := by omega
        exact v_vret C dX8_findUsable_48 ⟨rfl, rfl, rfl, rfl, q, U, hF⟩
      · have hkn := nI_lt_of (n := 5) h9 (by omega)
        obtain ⟨m, rfl⟩ : ∃ m2, m = m2 + 1 := ⟨m - 1, by omega⟩
        have hUk := hF.2.2.1.1
        refine v_aload_n C dX8_findUsable_12 rfl ?_
        refine v_iload_n C dX8_findUsable_13 rfl ?_
        refine v_aaload k C (hs.1 24 _ rfl) (cn := RX4) ⟨rfl, by decide, by decide⟩ (at_nI hkn (by decide)) (hs.kind hkn).2 dX8_findUsable_14 ?_
        refine v_iload_n C dX8_findUsable_15 rfl ?_
        refine v_callVi C (c_X4_suits (hs.kind hkn).1) mt_X4_suits lk_RX8_45 rfl rfl (hs.kind hkn).1 rfl rfl rfl rfl rfl dX8_findUsable_16 ?_
        refine v_eqi (show _ = if K.u k = true then 1 else 0 from (hK.o (fun a h1 h2 => hF.1 a (by omega) (by omega)) k hkn).1) ?_
        refine v_if_eq 42 C dX8_findUsable_19 (by decide) (fun h19 => ?_) (fun h19 => ?_)
        · refine v_iinc (nI (k + 1)) C dX8_findUsable_42 rfl (nI_1 k) (Nat.le_of_ble_eq_true rfl) rfl ?_
          refine v_goto 7 C dX8_findUsable_45 (by decide) ?_
          first
            | exact ih m (k + 1) (U + 1) _ _ (lt_fuel hfuel) (by omega) (hF.put hu)
            | exact ih m (k + 1) U q Ii (lt_fuel hfuel) (by omega) (hF.skip (fun r => absurd ((if_pos r).symm.trans h19) (by decide)))
        · have hu : K.u k = true := by rcases Classical.em (K.u k = true) with r | r; exact r; exact absurd (if_neg r) h19
          refine v_aload_n C dX8_findUsable_22 rfl ?_
          refine v_getR 40 C fl_RX8_9 rfl (hs.1 39 _ rfl) (hs.2 39 2 40 rfl) dX8_findUsable_23 ?_
          refine v_aload_n C dX8_findUsable_26 rfl ?_
          refine v_getI C fl_RX8_22 rfl (hs.1 39 _ rfl) dX8_findUsable_27 ?_
          refine v_eqi (show _ = nI U from hF.2.1) ?_
          refine v_iload_n C dX8_findUsable_30 rfl ?_
          refine v_iastore U C (hs.1 40 _ rfl) (at_nI (by omega) (by decide)) dX8_findUsable_31 ?_
          refine v_aload_n C dX8_findUsable_32 rfl ?_
          refine v_dupr C dX8_findUsable_33 ?_
          refine v_getI C fl_RX8_22 rfl (hs.1 39 _ rfl) dX8_findUsable_34 ?_
          refine v_eqi (show _ = nI U from hF.2.1) ?_
          refine v_iconst 1 C dX8_findUsable_37 (by decide) ?_
          refine v_iadd C dX8_findUsable_38 ?_
          refine v_eqi (nI_1 U) ?_
          refine v_putI C fl_RX8_22 rfl (hs.1 39 _ rfl) dX8_findUsable_39 ?_
          refine v_iinc (nI (k + 1)) C dX8_findUsable_42 rfl (nI_1 k) (Nat.le_of_ble_eq_true rfl) rfl ?_
          refine v_goto 7 C dX8_findUsable_45 (by decide) ?_
          first
            | exact ih m (k + 1) (U + 1) _ _ (lt_fuel hfuel) (by omega) (hF.put hu)
            | exact ih m (k + 1) U q Ii (lt_fuel hfuel) (by omega) (hF.skip (fun r => absurd ((if_pos r).symm.trans h19) (by decide)))
  refine v_aload_n C dX8_findUsable_0 rfl ?_
  refine v_iconst 0 C dX8_findUsable_1 (by decide) ?_
  refine v_putI C fl_RX8_22 rfl (hs.1 39 _ rfl) dX8_findUsable_2 ?_
  refine v_iconst 0 C dX8_findUsable_5 (by decide) ?_
  refine v_istore_n C dX8_findUsable_6 (Nat.le_of_ble_eq_true rfl) rfl ?_
  exact loop 6 5 0 0 pz _ (by decide) (by omega) ⟨fun a h _ => iu_ne a h, iu_same, QP.zero, fun s h => absurd h (Nat.not_lt_zero _)⟩

set_option maxHeartbeats 4000000 in
set_option maxRecDepth 100000 in
theorem c_X8_addOneMore {lnc : Launch} {E : En} {sh : List Sh} {I : IM} {J : JM} {R : RM} {c : Int32} {K : Kd} {q : Nat → Nat} {W N U M j t : Nat} (hs : St sh R) (hW0 : R 39 0 = some W) (hN0 : R 39 1 = some N) (hW : sh[W]? = some (.inr (1, 24531))) (hN : sh[N]? = some (.inr (1, 24531))) (hWN : W ≠ N) (hK : KC I c K) (hU : UQ I K q U) (ht : t < U) (hq : q t < 5 ∧ K.u (q t) = true) (hwj : K.w (q t) ≤ j) (hj : j ≤ 500) (hM : M ≤ 480) (hR : GRows K J W N M j 50) (hF : ∀ i, i ≤ M → FC K q J W N j t i) : Ct lnc E yX8_addOneMore cX8_addOneMore 13 none 0 0 [.ref 39, .ref (25 + q t), .long (lN (p9 (q t))), .int (nI (j % 51 * 481)), .int (nI M), .int (nI ((j - K.w (q t)) % 51 * 481))] sh I J R 0 0 (aoQ sh I J R K q W N M j (t + 1)) := by
  refine Ct.of (lv := [some (.ref 39), some (.ref (25 + q t)), some (.long (lN (p9 (q t)))), none, some (.int (nI (j % 51 * 481))), some (.int (nI M)), some (.int (nI ((j - K.w (q t)) % 51 * 481))), none, none, none, none, none, none]) (by decide) (Nat.le_of_ble_eq_true rfl) rfl (fun X hX C => ?_)
  have hKq := (hK (q t) hq.1).2 hq.2
  have bw := K.hw _ hq.2
  have bm := K.hm _ hq.2
  have bp := K.hp _ hq.2
  have bv := K.v_pos hq.2
  have loop : ∀ (fuel : Nat) (m n bk : Nat) (Jj : JM), m < fuel → M + 1 ≤ n + m → n ≤ 600 → K.mi (q t) ≤ n → bk + K.mi (q t) = ((j - K.w (q t)) % 51 * 481) + n → (∀ a, a ≠ W → a ≠ N → Jj a = J a) → GRows K Jj W N M j 50 → (∀ i, i < n → i ≤ M → FC K q Jj W N j (t + 1) i) → (∀ i, n ≤ i → i ≤ M → FC K q Jj W N j t i) → V E X (m_Z E X (aoQ sh I J R K q W N M j (t + 1)) 0 0) 0 0 sh I Jj R 27 [some (.ref 39), some (.ref (25 + q t)), some (.long (lN (p9 (q t)))), none, some (.int (nI (j % 51 * 481))), some (.int (nI M)), some (.int (nI ((j - K.w (q t)) % 51 * 481))), some (.long (lN (K.v (q t)))), none, some (.int (nI bk)), some (.int (nI n)), none, none] [] := by
    intro fuel
    induction fuel with
    | zero => intro m n bk Jj hfuel; exact absurd hfuel (Nat.not_lt_zero _)
    | succ fuel ih =>
      intro m n bk Jj hfuel hk hn6 hmn hbk hJ2 hG hF1 hF0
      refine v_iload C dX8_addOneMore_27 rfl ?_
      refine v_iload C dX8_addOneMore_29 rfl ?_
      refine v_icmp_gt 102 C dX8_addOneMore_31 (by decide) (fun h31 => ?_) (fun h31 => ?_)
      · have hn : M < n := (nI_ltI (by omega) (by omega)).mp h31
        exact v_vret C dX8_addOneMore_102 ⟨rfl, rfl, rfl, rfl, hJ2, hG, fun i hi => hF1 i (by omega) hi⟩
      · have hn : n ≤ M := nI_nlt2 h31 (by omega)
        obtain ⟨m, rfl⟩ : ∃ m2, m = m2 + 1 := ⟨m - 1, by omega⟩
        have ebk : bk = ((j - K.w (q t)) % 51 * 481) + (n - K.mi (q t)) := by omega
        obtain ⟨y, hy, hyW, hyN⟩ := hG (j - K.w (q t)) (by omega) (by omega) (n - K.mi (q t)) (by omega)
        rw [← ebk] at hyW hyN
        have hyb := hy.1.vb (by omega)
        obtain ⟨b, x, hb, hFi, hbW, hbN⟩ := hF0 n (Nat.le_refl _) hn
        refine v_aload_n C dX8_addOneMore_34 rfl ?_
        refine v_getR W C fl_RX8_26 rfl (hs.1 39 _ rfl) hW0 dX8_addOneMore_35 ?_
        refine v_iload C dX8_addOneMore_38 rfl ?_
        refine v_laload bk C hW (at_nI (by omega) (by decide)) dX8_addOneMore_40 ?_
        refine v_eql (show _ = lN (pS K.v y 5) from hyW) ?_
        refine v_lload C dX8_addOneMore_41 rfl ?_
        refine v_ladd C dX8_addOneMore_43 ?_
        refine v_eql (lN_add _ _) ?_
        refine v_lstore C dX8_addOneMore_44 (Nat.le_of_ble_eq_true rfl) rfl ?_
        refine v_lload C dX8_addOneMore_46 rfl ?_
        refine v_aload_n C dX8_addOneMore_48 rfl ?_
        refine v_getR W C fl_RX8_26 rfl (hs.1 39 _ rfl) hW0 dX8_addOneMore_49 ?_
        refine v_iload C dX8_addOneMore_52 rfl ?_
        refine v_iload C dX8_addOneMore_54 rfl ?_
        refine v_iadd C dX8_addOneMore_56 ?_
        refine v_eqi (nI_add _ _) ?_
        refine v_laload ((j % 51 * 481) + n) C hW (at_nI (by omega) (by decide)) dX8_addOneMore_57 ?_
        refine v_eql (show _ = lN b from hbW) ?_
        refine v_lcmp C dX8_addOneMore_58 ?_
        refine v_if_le 93 C dX8_addOneMore_59 (by decide) (fun h59 => ?_) (fun h59 => ?_)
        · refine v_iinc (nI (bk + 1)) C dX8_addOneMore_93 rfl (nI_1 bk) (Nat.le_of_ble_eq_true rfl) rfl ?_
          refine v_iinc (nI (n + 1)) C dX8_addOneMore_96 rfl (nI_1 n) (Nat.le_of_ble_eq_true rfl) rfl ?_
          refine v_goto 27 C dX8_addOneMore_99 (by decide) ?_
          refine v_drop 11 ?_
          first
            | exact ih m (n + 1) (bk + 1) _ (lt_fuel hfuel) (by omega) (by omega) (by omega) (by omega) (fun a h1 h2 => by rw [ju_ne' h2, ju_ne' h1]; exact hJ2 a h1 h2) (hG.keep hM ⟨n, by omega, rfl⟩) (fun i h1 h2 => by by_cases e : i = n; (rw [e]; exact FC.new (hFi.take hU.2.1.ql ht ⟨hmn, hwj⟩ hy ((pk_lLT (by omega) (by omega)).mp (Int64.not_le.mp (fun r => h59 ((lg_cmp_le _ _).mpr r))))) (by omega) hWN); (exact (hF1 i (by omega) h2).keep e)) (fun i h1 h2 => (hF0 i (by omega) h2).keep (by omega))
            | exact ih m (n + 1) (bk + 1) _ (lt_fuel hfuel) (by omega) (by omega) (by omega) (by omega) hJ2 hG (fun i h1 h2 => by by_cases e : i = n; (rw [e]; exact ⟨b, x, hb, hFi.leave hU.2.1.ql ht ⟨hmn, hwj⟩ hy (Nat.not_lt.mpr ((pk_lLE (by omega) (by omega)).mp ((lg_cmp_le _ _).mp h59))), hbW, hbN⟩); (exact hF1 i (by omega) h2)) (fun i h1 h2 => hF0 i (by omega) h2)
        · refine v_aload_n C dX8_addOneMore_62 rfl ?_
          refine v_getR W C fl_RX8_26 rfl (hs.1 39 _ rfl) hW0 dX8_addOneMore_63 ?_
          refine v_iload C dX8_addOneMore_66 rfl ?_
          refine v_iload C dX8_addOneMore_68 rfl ?_
          refine v_iadd C dX8_addOneMore_70 ?_
          refine v_eqi (nI_add _ _) ?_
          refine v_lload C dX8_addOneMore_71 rfl ?_
          refine v_lastore ((j % 51 * 481) + n) C hW (at_nI (by omega) (by decide)) dX8_addOneMore_73 ?_
          refine v_aload_n C dX8_addOneMore_74 rfl ?_
          refine v_getR N C fl_RX8_30 rfl (hs.1 39 _ rfl) hN0 dX8_addOneMore_75 ?_
          refine v_iload C dX8_addOneMore_78 rfl ?_
          refine v_iload C dX8_addOneMore_80 rfl ?_
          refine v_iadd C dX8_addOneMore_82 ?_
          refine v_eqi (nI_add _ _) ?_
          refine v_aload_n C dX8_addOneMore_83 rfl ?_
          refine v_getR N C fl_RX8_30 rfl (hs.1 39 _ rfl) hN0 dX8_addOneMore_84 ?_
          refine v_iload C dX8_addOneMore_87 rfl ?_
          refine v_laload bk C hN (at_nI (by omega) (by decide)) dX8_addOneMore_89 ?_
          refine v_eql (show _ = lN (pS p9 y 5) from by rw [ju_o (Ne.symm hWN)]; exact hyN) ?_
          refine v_lload_n C dX8_addOneMore_90 rfl ?_
          refine v_ladd C dX8_addOneMore_91 ?_
          refine v_eql (show _ = lN (pS p9 (pad y (psc 1 (q t))) 5) by rw [lN_add, pS_ad, pS_sc, if_pos hq.1, Nat.one_mul]) ?_
          refine v_lastore ((j % 51 * 481) + n) C hN (at_nI (by omega) (by decide)) dX8_addOneMore_92 ?_
          refine v_iinc (nI (bk + 1)) C dX8_addOneMore_93 rfl (nI_1 bk) (Nat.le_of_ble_eq_true rfl) rfl ?_
          refine v_iinc (nI (n + 1)) C dX8_addOneMore_96 rfl (nI_1 n) (Nat.le_of_ble_eq_true rfl) rfl ?_
          refine v_goto 27 C dX8_addOneMore_99 (by decide) ?_
          refine v_drop 11 ?_
          first
            | exact ih m (n + 1) (bk + 1) _ (lt_fuel hfuel) (by omega) (by omega) (by omega) (by omega) (fun a h1 h2 => by rw [ju_ne' h2, ju_ne' h1]; exact hJ2 a h1 h2) (hG.keep hM ⟨n, by omega, rfl⟩) (fun i h1 h2 => by by_cases e : i = n; (rw [e]; exact FC.new (hFi.take hU.2.1.ql ht ⟨hmn, hwj⟩ hy ((pk_lLT (by omega) (by omega)).mp (Int64.not_le.mp (fun r => h59 ((lg_cmp_le _ _).mpr r))))) (by omega) hWN); (exact (hF1 i (by omega) h2).keep e)) (fun i h1 h2 => (hF0 i (by omega) h2).keep (by omega))
            | exact ih m (n + 1) (bk + 1) _ (lt_fuel hfuel) (by omega) (by omega) (by omega) (by omega) hJ2 hG (fun i h1 h2 => by by_cases e : i = n; (rw [e]; exact ⟨b, x, hb, hFi.leave hU.2.1.ql ht ⟨hmn, hwj⟩ hy (Nat.not_lt.mpr ((pk_lLE (by omega) (by omega)).mp ((lg_cmp_le _ _).mp h59))), hbW, hbN⟩); (exact hF1 i (by omega) h2)) (fun i h1 h2 => hF0 i (by omega) h2)
  refine v_aload_n C dX8_addOneMore_0 rfl ?_
  refine v_getI C fl_RX8_58 rfl (hs.kind hq.1).1 dX8_addOneMore_1 ?_
  refine v_eqi (show _ = nI (K.p (q t)) from hKq.2.2) ?_
  refine v_i2l C dX8_addOneMore_4 ?_
  refine v_ldc2 1024 C ct_RX8_61 dX8_addOneMore_5 ?_
  refine v_lmul C dX8_addOneMore_8 ?_
  refine v_aload_n C dX8_addOneMore_9 rfl ?_
  refine v_getI C fl_RX8_63 rfl (hs.kind hq.1).1 dX8_addOneMore_10 ?_
  refine v_eqi (show _ = nI (K.mi (q t)) from hKq.2.1) ?_
  refine v_i2l C dX8_addOneMore_13 ?_
  refine v_lsub C dX8_addOneMore_14 ?_
  refine v_eql (show _ = lN (K.v (q t)) from gainL bp.2 bm.2 bp.1) ?_
  refine v_lstore C dX8_addOneMore_15 (Nat.le_of_ble_eq_true rfl) rfl ?_
  refine v_iload C dX8_addOneMore_17 rfl ?_
  refine v_istore C dX8_addOneMore_19 (Nat.le_of_ble_eq_true rfl) rfl ?_
  refine v_aload_n C dX8_addOneMore_21 rfl ?_
  refine v_getI C fl_RX8_63 rfl (hs.kind hq.1).1 dX8_addOneMore_22 ?_
  refine v_eqi (show _ = nI (K.mi (q t)) from hKq.2.1) ?_
  refine v_istore C dX8_addOneMore_25 (Nat.le_of_ble_eq_true rfl) rfl ?_
  exact loop (M + 2) (M + 1) (K.mi (q t)) ((j - K.w (q t)) % 51 * 481) J (Nat.lt_succ_self _) (by omega) (by omega) (Nat.le_refl _) rfl (fun a _ _ => rfl) hR (fun i h1 h2 => (hF i h2).skip (fun r => absurd r.1 (by omega))) (fun i _ h2 => hF i h2)
