set_option maxHeartbeats 4000000 in
set_option maxRecDepth 100000 in
theorem c_X8_findUsable {lnc : Launch} {E : En} {sh : List Sh} {I : IM} {J : JM} {R : RM} {c : Int32} {K : Kd} (hs : St sh R) (hK : KC I c K) : Ct lnc E yX8_findUsable cX8_findUsable 4 none 1 21 [.ref 39, .ref 24, .int c] sh I J R 0 0 (fuQ sh I J R K) := by
  refine Ct.of (lv := [some (.ref 39), some (.ref 24), some (.int c), none]) (by decide) (Nat.le_of_ble_eq_true rfl) rfl (fun X hX C => ?_)
  have loop : ∀ (fuel : Nat) (m k U : Nat) (q : Nat → Nat) (Ii : IM), m < fuel → k + m = 5 → FU I Ii K q U k → V E X (m_Z E X (fuQ sh I J R K) 0 0) 0 0 sh Ii J R 7 [some (.ref 39), some (.ref 24), some (.int c), some (.int (nI k))] [] := by
    intro fuel
    induction fuel with
    | zero => intro m k U q Ii hfuel; exact absurd hfuel (Nat.not_lt_zero _)
    | succ fuel ih =>
      intro m k U q Ii hfuel hk hF
      refine v_iload_n C dX8_findUsable_7 rfl ?_
      refine v_iconst 5 C dX8_findUsable_8 (by decide) ?_
      refine v_icmp_ge 48 C dX8_findUsable_9 (by decide) (fun h9 => ?_) (fun h9 => ?_)
      · have hkn := nI_le_of (n := 5) h9 (by omega) (by decide)
        obtain rfl : k = 5 := by omega
        exact v_vret C dX8_findUsable_48 ⟨rfl, rfl, rfl, rfl, q, U, hF⟩
      · have hkn := nI_lt_of (n := 5) h9 (by omega)
        obtain ⟨m, rfl⟩ : ∃ m2, m = m2 + 1 := ⟨m - 1, by omega⟩
        have hUk := hF.2.2.1.1
        refine v_aload_n C dX8_findUsable_12 rfl ?_
        refine v_iload_n C dX8_findUsable_13 rfl ?_
        refine v_aaload k C (hs.1 24 _ rfl) (cn := RX4) ⟨rfl, by decide, by decide⟩ (at_nI hkn (by decide)) (hs.kind hkn).2 dX8_findUsable_14 ?_
        refine v_iload_n C dX8_findUsable_15 rfl ?_
        refine v_callVi C (c_X4_suits (hs.kind hkn).1) mt_X4_suits lk_RX8_48 rfl rfl (hs.kind hkn).1 rfl rfl rfl rfl rfl dX8_findUsable_16 ?_
        refine v_eqi (show _ = if K.u k = true then 1 else 0 from (hK.o (fun a h1 h2 => hF.1 a (by omega) (by omega)) k hkn).1) ?_
        refine v_if_eq 42 C dX8_findUsable_19 (by decide) (fun h19 => ?_) (fun h19 => ?_)
        · refine v_iinc (nI (k + 1)) C dX8_findUsable_42 rfl (nI_1 k) (Nat.le_of_ble_eq_true rfl) rfl ?_
          refine v_goto 7 C dX8_findUsable_45 (by decide) ?_
          first
            | exact ih m (k + 1) (U + 1) _ _ (lt_fuel hfuel) (by omega) (hF.put hu)
            | exact ih m (k + 1) U q Ii (lt_fuel hfuel) (by omega) (hF.skip (fun r => absurd ((if_pos r).symm.trans h19) (by decide)))
        · have hu : K.u k = true := by rcases Classical.em (K.u k = true) with r | r; exact r; exact absurd (if_neg r) h19
          refine v_aload_n C dX8_findUsable_22 rfl ?_
          refine v_getR 40 C fl_RX8_9 rfl (hs.1 39 _ rfl) (hs.2 39 2 40 rfl) dX8_findUsable_23 ?_
          refine v_aload_n C dX8_findUsable_26 rfl ?_
          refine v_getI C fl_RX8_25 rfl (hs.1 39 _ rfl) dX8_findUsable_27 ?_
          refine v_eqi (show _ = nI U from hF.2.1) ?_
          refine v_iload_n C dX8_findUsable_30 rfl ?_
          refine v_iastore U C (hs.1 40 _ rfl) (at_nI (by omega) (by decide)) dX8_findUsable_31 ?_
          refine v_aload_n C dX8_findUsable_32 rfl ?_
          refine v_dupr C dX8_findUsable_33 ?_
          refine v_getI C fl_RX8_25 rfl (hs.1 39 _ rfl) dX8_findUsable_34 ?_
          refine v_eqi (show _ = nI U from hF.2.1) ?_
          refine v_iconst 1 C dX8_findUsable_37 (by decide) ?_
          refine v_iadd C dX8_findUsable_38 ?_
          refine v_eqi (nI_1 U) ?_
          refine v_putI C fl_RX8_25 rfl (hs.1 39 _ rfl) dX8_findUsable_39 ?_
          refine v_iinc (nI (k + 1)) C dX8_findUsable_42 rfl (nI_1 k) (Nat.le_of_ble_eq_true rfl) rfl ?_
          refine v_goto 7 C dX8_findUsable_45 (by decide) ?_
          first
            | exact ih m (k + 1) (U + 1) _ _ (lt_fuel hfuel) (by omega) (hF.put hu)
            | exact ih m (k + 1) U q Ii (lt_fuel hfuel) (by omega) (hF.skip (fun r => absurd ((if_pos r).symm.trans h19) (by decide)))
  refine v_aload_n C dX8_findUsable_0 rfl ?_
  refine v_iconst 0 C dX8_findUsable_1 (by decide) ?_
  refine v_putI C fl_RX8_25 rfl (hs.1 39 _ rfl) dX8_findUsable_2 ?_
  refine v_iconst 0 C dX8_findUsable_5 (by decide) ?_
  refine v_istore_n C dX8_findUsable_6 (Nat.le_of_ble_eq_true rfl) rfl ?_
  exact loop 6 5 0 0 pz _ (by decide) (by omega) ⟨fun a h _ => iu_ne a h, iu_same, QP.zero, fun s h => absurd h (Nat.not_lt_zero _)⟩

set_option maxHeartbeats 4000000 in
set_option maxRecDepth 100000 in
theorem c_X8_fillCell {lnc : Launch} {E : En} {sh : List Sh} {I : IM} {J : JM} {R : RM} {c : Int32} {K : Kd} {q : Nat → Nat} {W N U cl i j : Nat} (hs : St sh R) (hW0 : R 39 0 = some W) (hN0 : R 39 1 = some N) (hW : sh[W]? = some (.inr (1, 24531))) (hN : sh[N]? = some (.inr (1, 24531))) (hK : KC I c K) (hU : UQ I K q U) (hrb : RB I K q U j) (hcl : cl < 24531) (hi : i ≤ 480) (hc : ∀ s, s < U → Fit K i j (q s) → Cl K J W N ((j - K.w (q s)) % 51 * 481 + (i - K.mi (q s))) (i - K.mi (q s)) (j - K.w (q s))) : Ct lnc E yX8_fillCell cX8_fillCell 13 none 0 0 [.ref 39, .ref 24, .int (nI cl), .int (nI i)] sh I J R 0 0 (fcQ sh I J R K W N cl i j) := by
  refine Ct.of (lv := [some (.ref 39), some (.ref 24), some (.int (nI cl)), some (.int (nI i)), none, none, none, none, none, none, none, none, none]) (by decide) (Nat.le_of_ble_eq_true rfl) rfl (fun X hX C => ?_)
  have hU5 := hU.2.1.1
  have loop : ∀ (fuel : Nat) (m t b : Nat) (x : Nat → Nat), m < fuel → t + m = U → b < 2 ^ 62 → FInv K q i j t b x → V E X (m_Z E X (fcQ sh I J R K W N cl i j) 0 0) 0 0 sh I J R 9 [some (.ref 39), some (.ref 24), some (.int (nI cl)), some (.int (nI i)), some (.long (lN b)), none, some (.long (lN (pS p9 x 5))), none, some (.int (nI t)), none, none, none, none] [] := by
    intro fuel
    induction fuel with
    | zero => intro m t b x hfuel; exact absurd hfuel (Nat.not_lt_zero _)
    | succ fuel ih =>
      intro m t b x hfuel hk hb hF
      refine v_iload C dX8_fillCell_9 rfl ?_
      refine v_aload_n C dX8_fillCell_11 rfl ?_
      refine v_getI C fl_RX8_25 rfl (hs.1 39 _ rfl) dX8_fillCell_12 ?_
      refine v_eqi (show _ = nI U from hU.1) ?_
      refine v_icmp_ge 133 C dX8_fillCell_15 (by decide) (fun h15 => ?_) (fun h15 => ?_)
      · have hkn := nI_le_of h15 (by omega) (by omega)
        obtain rfl : t = U := by omega
        have hL := hF.done hU.2.1.ql (fun s hs hf => by obtain ⟨y, hy, _⟩ := hc s hs hf; exact ⟨y, hy⟩)
        have hv := hF.val (fun s hs => (hU.2.1.2.1 s hs).1)
        refine v_aload_n C dX8_fillCell_133 rfl ?_
        refine v_getR W C fl_RX8_29 rfl (hs.1 39 _ rfl) hW0 dX8_fillCell_134 ?_
        refine v_iload_n C dX8_fillCell_137 rfl ?_
        refine v_lload C dX8_fillCell_138 rfl ?_
        refine v_lastore cl C hW (at_nI hcl (by decide)) dX8_fillCell_140 ?_
        refine v_aload_n C dX8_fillCell_141 rfl ?_
        refine v_getR N C fl_RX8_33 rfl (hs.1 39 _ rfl) hN0 dX8_fillCell_142 ?_
        refine v_iload_n C dX8_fillCell_145 rfl ?_
        refine v_lload C dX8_fillCell_146 rfl ?_
        refine v_lastore cl C hN (at_nI hcl (by decide)) dX8_fillCell_148 ?_
        exact v_vret C dX8_fillCell_149 ⟨rfl, rfl, rfl, rfl, x, hL, by rw [hv]⟩
      · have hkn := nI_lt_of h15 (by omega)
        obtain ⟨m, rfl⟩ : ∃ m2, m = m2 + 1 := ⟨m - 1, by omega⟩
        have hq := hU.2.1.2.1 t hkn
        have hKq := (hK (q t) hq.1).2 hq.2
        have bw := K.hw _ hq.2
        have bm := K.hm _ hq.2
        have bp := K.hp _ hq.2
        have bv := K.v_pos hq.2
        refine v_aload_n C dX8_fillCell_18 rfl ?_
        refine v_aload_n C dX8_fillCell_19 rfl ?_
        refine v_getR 40 C fl_RX8_9 rfl (hs.1 39 _ rfl) (hs.2 39 2 40 rfl) dX8_fillCell_20 ?_
        refine v_iload C dX8_fillCell_23 rfl ?_
        refine v_iaload t C (hs.1 40 _ rfl) (at_nI (by omega) (by decide)) dX8_fillCell_25 ?_
        refine v_eqi (show _ = nI (q t) from hU.2.2 t hkn) ?_
        refine v_aaload (q t) C (hs.1 24 _ rfl) (cn := RX4) ⟨rfl, by decide, by decide⟩ (at_nI hq.1 (by decide)) (hs.kind hq.1).2 dX8_fillCell_26 ?_
        refine v_astore C dX8_fillCell_27 (Nat.le_of_ble_eq_true rfl) rfl ?_
        refine v_aload_n C dX8_fillCell_29 rfl ?_
        refine v_getR 41 C fl_RX8_15 rfl (hs.1 39 _ rfl) (hs.2 39 3 41 rfl) dX8_fillCell_30 ?_
        refine v_iload C dX8_fillCell_33 rfl ?_
        refine v_iaload t C (hs.1 41 _ rfl) (at_nI (by omega) (by decide)) dX8_fillCell_35 ?_
        refine v_eqi (show _ = if K.w (q t) ≤ j then nI ((j - K.w (q t)) % 51 * 481) else -1 from hrb t hkn) ?_
        refine v_iconst (-1) C dX8_fillCell_36 (by decide) ?_
        refine v_icmp_eq 127 C dX8_fillCell_37 (by decide) (fun h37 => ?_) (fun h37 => ?_)
        · refine v_iinc (nI (t + 1)) C dX8_fillCell_127 rfl (nI_1 t) (Nat.le_of_ble_eq_true rfl) rfl ?_
          refine v_goto 9 C dX8_fillCell_130 (by decide) ?_
          refine v_drop 9 ?_
          refine v_drop 10 ?_
          refine v_drop 11 ?_
          first
            | exact ih m (t + 1) _ _ (lt_fuel hfuel) (by omega) (by omega) (hF.take hU.2.1.ql hkn ⟨hmi, hwj⟩ hy ((pk_lLT (by omega) (by omega)).mp (Int64.not_le.mp (fun r => h98 ((lg_cmp_le _ _).mpr r)))))
            | exact ih m (t + 1) _ _ (lt_fuel hfuel) (by omega) hb (hF.leave hU.2.1.ql hkn ⟨hmi, hwj⟩ hy (Nat.not_lt.mpr ((pk_lLE (by omega) (by omega)).mp ((lg_cmp_le _ _).mp h98))))
            | exact ih m (t + 1) _ _ (lt_fuel hfuel) (by omega) hb (hF.skip (fun r => absurd h46 (Int32.not_lt.mpr (nI_le r.1 (by omega)))))
            | exact ih m (t + 1) _ _ (lt_fuel hfuel) (by omega) hb (hF.skip (fun r => nI_nm1 (by omega) ((if_pos r.2).symm.trans h37)))
        · have hwj : K.w (q t) ≤ j := by rcases Classical.em (K.w (q t) ≤ j) with r | r; exact r; exact absurd (if_neg r) h37
          refine v_aload C dX8_fillCell_40 rfl ?_
          refine v_getI C fl_RX8_60 rfl (hs.kind hq.1).1 dX8_fillCell_42 ?_
          refine v_eqi (show _ = nI (K.mi (q t)) from hKq.2.1) ?_
          refine v_iload_n C dX8_fillCell_45 rfl ?_
          refine v_icmp_gt 127 C dX8_fillCell_46 (by decide) (fun h46 => ?_) (fun h46 => ?_)
          · refine v_iinc (nI (t + 1)) C dX8_fillCell_127 rfl (nI_1 t) (Nat.le_of_ble_eq_true rfl) rfl ?_
            refine v_goto 9 C dX8_fillCell_130 (by decide) ?_
            refine v_drop 9 ?_
            refine v_drop 10 ?_
            refine v_drop 11 ?_
            first
              | exact ih m (t + 1) _ _ (lt_fuel hfuel) (by omega) (by omega) (hF.take hU.2.1.ql hkn ⟨hmi, hwj⟩ hy ((pk_lLT (by omega) (by omega)).mp (Int64.not_le.mp (fun r => h98 ((lg_cmp_le _ _).mpr r)))))
              | exact ih m (t + 1) _ _ (lt_fuel hfuel) (by omega) hb (hF.leave hU.2.1.ql hkn ⟨hmi, hwj⟩ hy (Nat.not_lt.mpr ((pk_lLE (by omega) (by omega)).mp ((lg_cmp_le _ _).mp h98))))
              | exact ih m (t + 1) _ _ (lt_fuel hfuel) (by omega) hb (hF.skip (fun r => absurd h46 (Int32.not_lt.mpr (nI_le r.1 (by omega)))))
              | exact ih m (t + 1) _ _ (lt_fuel hfuel) (by omega) hb (hF.skip (fun r => nI_nm1 (by omega) ((if_pos r.2).symm.trans h37)))
          · have hmi : K.mi (q t) ≤ i := nI_nlt2 h46 (by omega)
            obtain ⟨y, hy, hyW, hyN⟩ := hc t hkn ⟨hmi, hwj⟩
            have hyb := hy.1.vb (by omega)
            refine v_aload_n C dX8_fillCell_49 rfl ?_
            refine v_getR 41 C fl_RX8_15 rfl (hs.1 39 _ rfl) (hs.2 39 3 41 rfl) dX8_fillCell_50 ?_
            refine v_iload C dX8_fillCell_53 rfl ?_
            refine v_iaload t C (hs.1 41 _ rfl) (at_nI (by omega) (by decide)) dX8_fillCell_55 ?_
            refine v_eqi (show _ = nI ((j - K.w (q t)) % 51 * 481) from (hrb t hkn).trans (if_pos hwj)) ?_
            refine v_iload_n C dX8_fillCell_56 rfl ?_
            refine v_iadd C dX8_fillCell_57 ?_
            refine v_eqi (nI_add _ _) ?_
            refine v_aload C dX8_fillCell_58 rfl ?_
            refine v_getI C fl_RX8_60 rfl (hs.kind hq.1).1 dX8_fillCell_60 ?_
            refine v_eqi (show _ = nI (K.mi (q t)) from hKq.2.1) ?_
            refine v_isub C dX8_fillCell_63 ?_
            refine v_eqi (show _ = nI ((j - K.w (q t)) % 51 * 481 + (i - K.mi (q t))) by rw [pk_sub (by omega)]; congr 1; omega) ?_
            refine v_istore C dX8_fillCell_64 (Nat.le_of_ble_eq_true rfl) rfl ?_
            refine v_aload_n C dX8_fillCell_66 rfl ?_
            refine v_getR W C fl_RX8_29 rfl (hs.1 39 _ rfl) hW0 dX8_fillCell_67 ?_
            refine v_iload C dX8_fillCell_70 rfl ?_
            refine v_laload ((j - K.w (q t)) % 51 * 481 + (i - K.mi (q t))) C hW (at_nI (by omega) (by decide)) dX8_fillCell_72 ?_
            refine v_eql (show _ = lN (pS K.v y 5) from hyW) ?_
            refine v_aload C dX8_fillCell_73 rfl ?_
            refine v_getI C fl_RX8_63 rfl (hs.kind hq.1).1 dX8_fillCell_75 ?_
            refine v_eqi (show _ = nI (K.p (q t)) from hKq.2.2) ?_
            refine v_i2l C dX8_fillCell_78 ?_
            refine v_ldc2 1024 C ct_RX8_66 dX8_fillCell_79 ?_
            refine v_lmul C dX8_fillCell_82 ?_
            refine v_ladd C dX8_fillCell_83 ?_
            refine v_aload C dX8_fillCell_84 rfl ?_
            refine v_getI C fl_RX8_60 rfl (hs.kind hq.1).1 dX8_fillCell_86 ?_
            refine v_eqi (show _ = nI (K.mi (q t)) from hKq.2.1) ?_
            refine v_i2l C dX8_fillCell_89 ?_
            refine v_lsub C dX8_fillCell_90 ?_
            refine v_eql (show _ = lN (pS K.v y 5 + K.v (q t)) from sumL bp.2 bm.2 bp.1) ?_
            refine v_lstore C dX8_fillCell_91 (Nat.le_of_ble_eq_true rfl) rfl ?_
            refine v_lload C dX8_fillCell_93 rfl ?_
            refine v_lload C dX8_fillCell_95 rfl ?_
            refine v_lcmp C dX8_fillCell_97 ?_
            refine v_if_le 127 C dX8_fillCell_98 (by decide) (fun h98 => ?_) (fun h98 => ?_)
            · refine v_iinc (nI (t + 1)) C dX8_fillCell_127 rfl (nI_1 t) (Nat.le_of_ble_eq_true rfl) rfl ?_
              refine v_goto 9 C dX8_fillCell_130 (by decide) ?_
              refine v_drop 9 ?_
              refine v_drop 10 ?_
              refine v_drop 11 ?_
              first
                | exact ih m (t + 1) _ _ (lt_fuel hfuel) (by omega) (by omega) (hF.take hU.2.1.ql hkn ⟨hmi, hwj⟩ hy ((pk_lLT (by omega) (by omega)).mp (Int64.not_le.mp (fun r => h98 ((lg_cmp_le _ _).mpr r)))))
                | exact ih m (t + 1) _ _ (lt_fuel hfuel) (by omega) hb (hF.leave hU.2.1.ql hkn ⟨hmi, hwj⟩ hy (Nat.not_lt.mpr ((pk_lLE (by omega) (by omega)).mp ((lg_cmp_le _ _).mp h98))))
                | exact ih m (t + 1) _ _ (lt_fuel hfuel) (by omega) hb (hF.skip (fun r => absurd h46 (Int32.not_lt.mpr (nI_le r.1 (by omega)))))
                | exact ih m (t + 1) _ _ (lt_fuel hfuel) (by omega) hb (hF.skip (fun r => nI_nm1 (by omega) ((if_pos r.2).symm.trans h37)))
            · refine v_lload C dX8_fillCell_101 rfl ?_
              refine v_lstore C dX8_fillCell_103 (Nat.le_of_ble_eq_true rfl) rfl ?_
              refine v_aload_n C dX8_fillCell_105 rfl ?_
              refine v_getR N C fl_RX8_33 rfl (hs.1 39 _ rfl) hN0 dX8_fillCell_106 ?_
              refine v_iload C dX8_fillCell_109 rfl ?_
              refine v_laload ((j - K.w (q t)) % 51 * 481 + (i - K.mi (q t))) C hN (at_nI (by omega) (by decide)) dX8_fillCell_111 ?_
              refine v_eql (show _ = lN (pS p9 y 5) from hyN) ?_
              refine v_lconst 1 C dX8_fillCell_112 (by decide) ?_
              refine v_bipush 9 C dX8_fillCell_113 (by decide) ?_
              refine v_aload_n C dX8_fillCell_115 rfl ?_
              refine v_getR 40 C fl_RX8_9 rfl (hs.1 39 _ rfl) (hs.2 39 2 40 rfl) dX8_fillCell_116 ?_
              refine v_iload C dX8_fillCell_119 rfl ?_
              refine v_iaload t C (hs.1 40 _ rfl) (at_nI (by omega) (by decide)) dX8_fillCell_121 ?_
              refine v_eqi (show _ = nI (q t) from hU.2.2 t hkn) ?_
              refine v_imul C dX8_fillCell_122 ?_
              refine v_lshl C dX8_fillCell_123 ?_
              refine v_eql (shl9 (q t) hq.1) ?_
              refine v_ladd C dX8_fillCell_124 ?_
              refine v_eql (show _ = lN (pS p9 (pad y (psc 1 (q t))) 5) by rw [lN_add, pS_ad, pS_sc, if_pos hq.1, Nat.one_mul]) ?_
              refine v_lstore C dX8_fillCell_125 (Nat.le_of_ble_eq_true rfl) rfl ?_
              refine v_iinc (nI (t + 1)) C dX8_fillCell_127 rfl (nI_1 t) (Nat.le_of_ble_eq_true rfl) rfl ?_
              refine v_goto 9 C dX8_fillCell_130 (by decide) ?_
              refine v_drop 9 ?_
              refine v_drop 10 ?_
              refine v_drop 11 ?_
              first
                | exact ih m (t + 1) _ _ (lt_fuel hfuel) (by omega) (by omega) (hF.take hU.2.1.ql hkn ⟨hmi, hwj⟩ hy ((pk_lLT (by omega) (by omega)).mp (Int64.not_le.mp (fun r => h98 ((lg_cmp_le _ _).mpr r)))))
                | exact ih m (t + 1) _ _ (lt_fuel hfuel) (by omega) hb (hF.leave hU.2.1.ql hkn ⟨hmi, hwj⟩ hy (Nat.not_lt.mpr ((pk_lLE (by omega) (by omega)).mp ((lg_cmp_le _ _).mp h98))))
                | exact ih m (t + 1) _ _ (lt_fuel hfuel) (by omega) hb (hF.skip (fun r => absurd h46 (Int32.not_lt.mpr (nI_le r.1 (by omega)))))
                | exact ih m (t + 1) _ _ (lt_fuel hfuel) (by omega) hb (hF.skip (fun r => nI_nm1 (by omega) ((if_pos r.2).symm.trans h37)))
  refine v_lconst 0 C dX8_fillCell_0 (by decide) ?_
  refine v_lstore C dX8_fillCell_1 (Nat.le_of_ble_eq_true rfl) rfl ?_
  refine v_lconst 0 C dX8_fillCell_3 (by decide) ?_
  refine v_lstore C dX8_fillCell_4 (Nat.le_of_ble_eq_true rfl) rfl ?_
  refine v_iconst 0 C dX8_fillCell_6 (by decide) ?_
  refine v_istore C dX8_fillCell_7 (Nat.le_of_ble_eq_true rfl) rfl ?_
  exact loop (U + 1) U 0 0 pz (Nat.lt_succ_self _) (by omega) (by decide) (Or.inl ⟨rfl, rfl, fun s hs => absurd hs (Nat.not_lt_zero _)⟩)
