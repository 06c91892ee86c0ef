set_option maxHeartbeats 4000000 in
set_option maxRecDepth 100000 in
theorem c_X8_fillRow {lnc : Launch} {E : En} {sh : List Sh} {I : IM} {J : JM} {R : RM} {c : Int32} {K : Kd} {q : Nat → Nat} {W N U M j : Nat} (hs : St sh R) (hW0 : R 39 0 = some W) (hN0 : R 39 1 = some N) (hW : sh[W]? = some (.inr (1, 24531))) (hN : sh[N]? = some (.inr (1, 24531))) (hWN : W ≠ N) (hK : KC I c K) (hU : UQ I K q U) (hj : j ≤ 500) (hM : M ≤ 480) (hR : GRows K J W N M j 51) : Ct lnc E yX8_fillRow cX8_fillRow 7 none 1 32 [.ref 39, .ref 24, .int (nI j), .int (nI M)] sh I J R 0 0 (frQ sh I J R K W N M j) := by
  refine Ct.of (lv := [some (.ref 39), some (.ref 24), some (.int (nI j)), some (.int (nI M)), none, none, none]) (by decide) (Nat.le_of_ble_eq_true rfl) rfl (fun X hX C => ?_)
  have hU5 := hU.2.1.1
  have loop2 : ∀ (fuel : Nat) (m t : Nat) (Jj : JM), m < fuel → t + m = U → (∀ a, a ≠ W → a ≠ N → Jj a = J a) → GRows K Jj W N M j 50 → (∀ i, i ≤ M → FC K q Jj W N j t i) → V E X (m_Z E X (frQ sh I J R K W N M j) 0 0) 0 0 sh I Jj R 50 [some (.ref 39), some (.ref 24), some (.int (nI j)), some (.int (nI M)), some (.int (nI (j % 51 * 481))), some (.int (nI t)), none] [] := by
    intro fuel
    induction fuel with
    | zero => intro m t Jj hfuel; exact absurd hfuel (Nat.not_lt_zero _)
    | succ fuel ih =>
      intro m t Jj hfuel hk hJ2 hG hF
      refine v_iload C dX8_fillRow_50 rfl ?_
      refine v_aload_n C dX8_fillRow_52 rfl ?_
      refine v_getI C fl_RX8_22 rfl (hs.1 39 _ rfl) dX8_fillRow_53 ?_
      refine v_eqi (show _ = nI U from hU.1) ?_
      refine v_icmp_ge 120 C dX8_fillRow_56 (by decide) (fun h56 => ?_) (fun h56 => ?_)
      · have hkn := nI_le_of h56 (by omega) (by omega)
        obtain rfl : t = U := by omega
        exact v_vret C dX8_fillRow_120 ⟨rfl, rfl, rfl, rfl, hJ2, hG.next (fun i hi => FC.done hU.2.1.ql hG (by omega) (hF i (by omega)))⟩
      · have hkn := nI_lt_of h56 (by omega)
        obtain ⟨m, rfl⟩ : ∃ m2, m = m2 + 1 := ⟨m - 1, by omega⟩
        have hq := hU.2.1.2.1 t hkn
        have hKq := (hK (q t) hq.1).2 hq.2
        have bw := K.hw _ hq.2
        refine v_aload_n C dX8_fillRow_59 rfl ?_
        refine v_aload_n C dX8_fillRow_60 rfl ?_
        refine v_getR 40 C fl_RX8_9 rfl (hs.1 39 _ rfl) (hs.2 39 2 40 rfl) dX8_fillRow_61 ?_
        refine v_iload C dX8_fillRow_64 rfl ?_
        refine v_iaload t C (hs.1 40 _ rfl) (at_nI (by omega) (by decide)) dX8_fillRow_66 ?_
        refine v_eqi (show _ = nI (q t) from hU.2.2 t hkn) ?_
        refine v_aaload (q t) C (hs.1 24 _ rfl) (cn := RX4) ⟨rfl, by decide, by decide⟩ (at_nI hq.1 (by decide)) (hs.kind hq.1).2 dX8_fillRow_67 ?_
        refine v_astore C dX8_fillRow_68 (Nat.le_of_ble_eq_true rfl) rfl ?_
        refine v_aload C dX8_fillRow_70 rfl ?_
        refine v_getI C fl_RX8_51 rfl (hs.kind hq.1).1 dX8_fillRow_72 ?_
        refine v_eqi (show _ = nI (K.w (q t)) from hKq.1) ?_
        refine v_iload_n C dX8_fillRow_75 rfl ?_
        refine v_icmp_gt 114 C dX8_fillRow_76 (by decide) (fun h76 => ?_) (fun h76 => ?_)
        · refine v_iinc (nI (t + 1)) C dX8_fillRow_114 rfl (nI_1 t) (Nat.le_of_ble_eq_true rfl) rfl ?_
          refine v_goto 50 C dX8_fillRow_117 (by decide) ?_
          refine v_drop 6 ?_
          first
            | exact ih m (t + 1) _ (lt_fuel hfuel) (by omega) (fun a h1 h2 => (g5 a h1 h2).trans (hJ2 a h1 h2)) g6 g7
            | exact ih m (t + 1) Jj (lt_fuel hfuel) (by omega) hJ2 hG (fun i hi => (hF i hi).skip (fun r => absurd r.2 (Nat.not_le.mpr ((nI_ltI (by omega) (by omega)).mp h76))))
        · have hwj : K.w (q t) ≤ j := nI_nlt2 h76 (by omega)
          refine v_aload_n C dX8_fillRow_79 rfl ?_
          refine v_aload C dX8_fillRow_80 rfl ?_
          refine v_lconst 1 C dX8_fillRow_82 (by decide) ?_
          refine v_bipush 9 C dX8_fillRow_83 (by decide) ?_
          refine v_aload_n C dX8_fillRow_85 rfl ?_
          refine v_getR 40 C fl_RX8_9 rfl (hs.1 39 _ rfl) (hs.2 39 2 40 rfl) dX8_fillRow_86 ?_
          refine v_iload C dX8_fillRow_89 rfl ?_
          refine v_iaload t C (hs.1 40 _ rfl) (at_nI (by omega) (by decide)) dX8_fillRow_91 ?_
          refine v_eqi (show _ = nI (q t) from hU.2.2 t hkn) ?_
          refine v_imul C dX8_fillRow_92 ?_
          refine v_lshl C dX8_fillRow_93 ?_
          refine v_eql (shl9 (q t) hq.1) ?_
          refine v_iload C dX8_fillRow_94 rfl ?_
          refine v_iload_n C dX8_fillRow_96 rfl ?_
          refine v_iload_n C dX8_fillRow_97 rfl ?_
          refine v_aload C dX8_fillRow_98 rfl ?_
          refine v_getI C fl_RX8_51 rfl (hs.kind hq.1).1 dX8_fillRow_100 ?_
          refine v_eqi (show _ = nI (K.w (q t)) from hKq.1) ?_
          refine v_isub C dX8_fillRow_103 ?_
          refine v_eqi (pk_sub hwj) ?_
          refine v_bipush 51 C dX8_fillRow_104 (by decide) ?_
          refine v_irem C dX8_fillRow_106 (by decide) ?_
          refine v_eqi (pk_rem (d := 51) (by omega) (by decide) (by decide)) ?_
          refine v_sipush 481 C dX8_fillRow_107 (by decide) ?_
          refine v_imul C dX8_fillRow_110 ?_
          refine v_eqi (pk_mul _ 481) ?_
          refine v_callV C (c_X8_addOneMore (c := c) (K := K) (q := q) (W := W) (N := N) (U := U) (M := M) (j := j) (t := t) hs hW0 hN0 hW hN hWN hK hU hkn hq hwj hj hM hG hF) mt_X8_addOneMore lk_RX8_54 rfl rfl (hs.1 39 _ rfl) rfl rfl rfl (Nat.le_of_ble_eq_true rfl) (rmB_ok rfl) dX8_fillRow_111 ?_
          intro v sh1 I1 J1 R1 hQ
          obtain ⟨rfl, e2, e3, e4, g5, g6, g7⟩ := hQ
          obtain rfl := e2.symm
          obtain rfl := e3.symm
          obtain rfl := e4.symm
          refine v_iinc (nI (t + 1)) C dX8_fillRow_114 rfl (nI_1 t) (Nat.le_of_ble_eq_true rfl) rfl ?_
          refine v_goto 50 C dX8_fillRow_117 (by decide) ?_
          refine v_drop 6 ?_
          first
            | exact ih m (t + 1) _ (lt_fuel hfuel) (by omega) (fun a h1 h2 => (g5 a h1 h2).trans (hJ2 a h1 h2)) g6 g7
            | exact ih m (t + 1) Jj (lt_fuel hfuel) (by omega) hJ2 hG (fun i hi => (hF i hi).skip (fun r => absurd r.2 (Nat.not_le.mpr ((nI_ltI (by omega) (by omega)).mp h76))))
  have loop : ∀ (fuel : Nat) (m n : Nat) (Jj : JM), m < fuel → n + m = M + 1 → (∀ a, a ≠ W → a ≠ N → Jj a = J a) → GRows K Jj W N M j 50 → (∀ i, i < n → Jj W ((j % 51 * 481) + i) = 0 ∧ Jj N ((j % 51 * 481) + i) = 0) → V E X (m_Z E X (frQ sh I J R K W N M j) 0 0) 0 0 sh I Jj R 13 [some (.ref 39), some (.ref 24), some (.int (nI j)), some (.int (nI M)), some (.int (nI (j % 51 * 481))), some (.int (nI n)), none] [] := by
    intro fuel
    induction fuel with
    | zero => intro m n Jj hfuel; exact absurd hfuel (Nat.not_lt_zero _)
    | succ fuel ih =>
      intro m n Jj hfuel hk hJ2 hG hZ
      refine v_iload C dX8_fillRow_13 rfl ?_
      refine v_iload_n C dX8_fillRow_15 rfl ?_
      refine v_icmp_gt 47 C dX8_fillRow_16 (by decide) (fun h16 => ?_) (fun h16 => ?_)
      · have hn : M < n := (nI_ltI (by omega) (by omega)).mp h16
        obtain rfl : n = M + 1 := by omega
        refine v_iconst 0 C dX8_fillRow_47 (by decide) ?_
        refine v_istore C dX8_fillRow_48 (Nat.le_of_ble_eq_true rfl) rfl ?_
        exact loop2 (U + 1) U 0 Jj (Nat.lt_succ_self _) (by omega) hJ2 hG (fun i hi => FC.zero (hZ i (by omega)).1 (hZ i (by omega)).2)
      · have hn : n ≤ M := nI_nlt2 h16 (by omega)
        obtain ⟨m, rfl⟩ : ∃ m2, m = m2 + 1 := ⟨m - 1, by omega⟩
        refine v_aload_n C dX8_fillRow_19 rfl ?_
        refine v_getR W C fl_RX8_26 rfl (hs.1 39 _ rfl) hW0 dX8_fillRow_20 ?_
        refine v_iload C dX8_fillRow_23 rfl ?_
        refine v_iload C dX8_fillRow_25 rfl ?_
        refine v_iadd C dX8_fillRow_27 ?_
        refine v_eqi (nI_add _ _) ?_
        refine v_lconst 0 C dX8_fillRow_28 (by decide) ?_
        refine v_lastore ((j % 51 * 481) + n) C hW (at_nI (by omega) (by decide)) dX8_fillRow_29 ?_
        refine v_aload_n C dX8_fillRow_30 rfl ?_
        refine v_getR N C fl_RX8_30 rfl (hs.1 39 _ rfl) hN0 dX8_fillRow_31 ?_
        refine v_iload C dX8_fillRow_34 rfl ?_
        refine v_iload C dX8_fillRow_36 rfl ?_
        refine v_iadd C dX8_fillRow_38 ?_
        refine v_eqi (nI_add _ _) ?_
        refine v_lconst 0 C dX8_fillRow_39 (by decide) ?_
        refine v_lastore ((j % 51 * 481) + n) C hN (at_nI (by omega) (by decide)) dX8_fillRow_40 ?_
        refine v_iinc (nI (n + 1)) C dX8_fillRow_41 rfl (nI_1 n) (Nat.le_of_ble_eq_true rfl) rfl ?_
        refine v_goto 13 C dX8_fillRow_44 (by decide) ?_
        exact ih m (n + 1) _ (lt_fuel hfuel) (by omega) (fun a h1 h2 => by rw [ju_ne' h2, ju_ne' h1]; exact hJ2 a h1 h2) (hG.keep hM ⟨n, by omega, rfl⟩) (fun i hi => by by_cases e : i = n; (rw [e, ju_o hWN, ju_same, ju_same]; exact ⟨rfl, rfl⟩); (have e2 : j % 51 * 481 + i ≠ j % 51 * 481 + n := by omega); rw [ju_k e2, ju_k e2, ju_k e2, ju_k e2]; exact hZ i (by omega))
  refine v_iload_n C dX8_fillRow_0 rfl ?_
  refine v_bipush 51 C dX8_fillRow_1 (by decide) ?_
  refine v_irem C dX8_fillRow_3 (by decide) ?_
  refine v_eqi (pk_rem (d := 51) (by omega) (by decide) (by decide)) ?_
  refine v_sipush 481 C dX8_fillRow_4 (by decide) ?_
  refine v_imul C dX8_fillRow_7 ?_
  refine v_eqi (pk_mul _ 481) ?_
  refine v_istore C dX8_fillRow_8 (Nat.le_of_ble_eq_true rfl) rfl ?_
  refine v_iconst 0 C dX8_fillRow_10 (by decide) ?_
  refine v_istore C dX8_fillRow_11 (Nat.le_of_ble_eq_true rfl) rfl ?_
  exact loop (M + 2) (M + 1) 0 J (Nat.lt_succ_self _) (by omega) (fun a _ _ => rfl) hR.less (fun i hi => absurd hi (Nat.not_lt_zero _))

set_option maxHeartbeats 4000000 in
set_option maxRecDepth 100000 in
theorem c_X8_keep {lnc : Launch} {E : En} {sh : List Sh} {I : IM} {J : JM} {R : RM} {y : Int64} (hs : St sh R) : Ct lnc E yX8_keep cX8_keep 7 (some .int) 0 0 [.ref 39, .ref 24, .long y] sh I J R 0 0 (kpQ sh I J R y) := by
  refine Ct.of (lv := [some (.ref 39), some (.ref 24), some (.long y), none, none, none, none]) (by decide) (Nat.le_of_ble_eq_true rfl) rfl (fun X hX C => ?_)
  have loop : ∀ (fuel : Nat) (m n : Nat) (Ii : IM), m < fuel → n + m = 5 → (∀ a, a ≠ 39 → a ≠ 41 → Ii a = I a) → (∀ k, k < 6 → Ii 39 k = I 39 k) → Ii 39 6 = kpM I y 2 n → Ii 39 7 = kpM I y 1 n → (∀ k, k < n → Ii 41 k = kpF y (nI k)) → V E X (m_Z E X (kpQ sh I J R y) 0 0) 0 0 sh Ii J R 16 [some (.ref 39), some (.ref 24), some (.long y), none, some (.int (kpM I y 3 n)), some (.int (nI n)), none] [] := by
    intro fuel
    induction fuel with
    | zero => intro m n Ii hfuel; exact absurd hfuel (Nat.not_lt_zero _)
    | succ fuel ih =>
      intro m n Ii hfuel hk hI2 h39 h7 h8 h42
      refine v_iload C dX8_keep_16 rfl ?_
      refine v_iconst 5 C dX8_keep_18 (by decide) ?_
      refine v_icmp_ge 104 C dX8_keep_19 (by decide) (fun h19 => ?_) (fun h19 => ?_)
      · have hkn := nI_le_of (n := 5) h19 (by omega) (by decide)
        obtain rfl : n = 5 := by omega
        refine v_iload C dX8_keep_104 rfl ?_
        exact v_iret C dX8_keep_106 ⟨rfl, rfl, rfl, rfl, hI2, h39, h7, h8, h42⟩
      · have hkn := nI_lt_of (n := 5) h19 (by omega)
        obtain ⟨m, rfl⟩ : ∃ m2, m = m2 + 1 := ⟨m - 1, by omega⟩
        refine v_lload_n C dX8_keep_22 rfl ?_
        refine v_bipush 9 C dX8_keep_23 (by decide) ?_
        refine v_iload C dX8_keep_25 rfl ?_
        refine v_imul C dX8_keep_27 ?_
        refine v_lshr C dX8_keep_28 ?_
        refine v_l2i C dX8_keep_29 ?_
        refine v_sipush 511 C dX8_keep_30 (by decide) ?_
        refine v_iand C dX8_keep_33 ?_
        refine v_eqi (show _ = kpF y (nI n) from rfl) ?_
        refine v_istore C dX8_keep_34 (Nat.le_of_ble_eq_true rfl) rfl ?_
        refine v_aload_n C dX8_keep_36 rfl ?_
        refine v_getR 41 C fl_RX8_15 rfl (hs.1 39 _ rfl) (hs.2 39 3 41 rfl) dX8_keep_37 ?_
        refine v_iload C dX8_keep_40 rfl ?_
        refine v_iload C dX8_keep_42 rfl ?_
        refine v_iastore n C (hs.1 41 _ rfl) (at_nI hkn (by decide)) dX8_keep_44 ?_
        refine v_iload C dX8_keep_45 rfl ?_
        refine v_iload C dX8_keep_47 rfl ?_
        refine v_aload_n C dX8_keep_49 rfl ?_
        refine v_iload C dX8_keep_50 rfl ?_
        refine v_aaload n C (hs.1 24 _ rfl) (cn := RX4) ⟨rfl, by decide, by decide⟩ (at_nI hkn (by decide)) (hs.kind hkn).2 dX8_keep_52 ?_
        refine v_getI C fl_RX8_58 rfl (hs.kind hkn).1 dX8_keep_53 ?_
        refine v_eqi (show _ = I (25 + n) 3 from by rw [iu_ne (25 + n) (by omega), (hI2 (25 + n) (by omega) (by omega))]) ?_
        refine v_imul C dX8_keep_56 ?_
        refine v_iadd C dX8_keep_57 ?_
        refine v_eqi (show _ = kpM I y 3 (n + 1) from rfl) ?_
        refine v_istore C dX8_keep_58 (Nat.le_of_ble_eq_true rfl) rfl ?_
        refine v_aload_n C dX8_keep_60 rfl ?_
        refine v_dupr C dX8_keep_61 ?_
        refine v_getI C fl_RX8_66 rfl (hs.1 39 _ rfl) dX8_keep_62 ?_
        refine v_eqi (show _ = kpM I y 2 n from by rw [iu_o (by decide)]; exact h7) ?_
        refine v_iload C dX8_keep_65 rfl ?_
        refine v_aload_n C dX8_keep_67 rfl ?_
        refine v_iload C dX8_keep_68 rfl ?_
        refine v_aaload n C (hs.1 24 _ rfl) (cn := RX4) ⟨rfl, by decide, by decide⟩ (at_nI hkn (by decide)) (hs.kind hkn).2 dX8_keep_70 ?_
        refine v_getI C fl_RX8_63 rfl (hs.kind hkn).1 dX8_keep_71 ?_
        refine v_eqi (show _ = I (25 + n) 2 from by rw [iu_ne (25 + n) (by omega), (hI2 (25 + n) (by omega) (by omega))]) ?_
        refine v_imul C dX8_keep_74 ?_
        refine v_iadd C dX8_keep_75 ?_
        refine v_eqi (show _ = kpM I y 2 (n + 1) from rfl) ?_
        refine v_putI C fl_RX8_66 rfl (hs.1 39 _ rfl) dX8_keep_76 ?_
        refine v_aload_n C dX8_keep_79 rfl ?_
        refine v_dupr C dX8_keep_80 ?_
        refine v_getI C fl_RX8_69 rfl (hs.1 39 _ rfl) dX8_keep_81 ?_
        refine v_eqi (show _ = kpM I y 1 n from by rw [iu_k (by decide), iu_o (by decide)]; exact h8) ?_
        refine v_iload C dX8_keep_84 rfl ?_
        refine v_aload_n C dX8_keep_86 rfl ?_
        refine v_iload C dX8_keep_87 rfl ?_
        refine v_aaload n C (hs.1 24 _ rfl) (cn := RX4) ⟨rfl, by decide, by decide⟩ (at_nI hkn (by decide)) (hs.kind hkn).2 dX8_keep_89 ?_
        refine v_getI C fl_RX8_51 rfl (hs.kind hkn).1 dX8_keep_90 ?_
        refine v_eqi (show _ = I (25 + n) 1 from by rw [iu_ne (25 + n) (by omega), iu_ne (25 + n) (by omega), (hI2 (25 + n) (by omega) (by omega))]) ?_
        refine v_imul C dX8_keep_93 ?_
        refine v_iadd C dX8_keep_94 ?_
        refine v_eqi (show _ = kpM I y 1 (n + 1) from rfl) ?_
        refine v_putI C fl_RX8_69 rfl (hs.1 39 _ rfl) dX8_keep_95 ?_
        refine v_iinc (nI (n + 1)) C dX8_keep_98 rfl (nI_1 n) (Nat.le_of_ble_eq_true rfl) rfl ?_
        refine v_goto 16 C dX8_keep_101 (by decide) ?_
        refine v_drop 6 ?_
        exact ih m (n + 1) _ (lt_fuel hfuel) (by omega) (fun a h1 h2 => by rw [iu_ne a h1, iu_ne a h1, iu_ne a h2]; exact hI2 a h1 h2) (fun k hk2 => by rw [iu_k (show k ≠ 7 by omega), iu_k (show k ≠ 6 by omega), iu_o (by decide)]; exact h39 k hk2) (by rw [iu_k (by decide), iu_same]) iu_same (fun k hk2 => by rw [iu_o (by decide), iu_o (by decide)]; by_cases e : k = n; (rw [e, iu_same]); (rw [iu_k e]; exact h42 k (by omega)))
  refine v_iconst 0 C dX8_keep_0 (by decide) ?_
  refine v_istore C dX8_keep_1 (Nat.le_of_ble_eq_true rfl) rfl ?_
  refine v_aload_n C dX8_keep_3 rfl ?_
  refine v_iconst 0 C dX8_keep_4 (by decide) ?_
  refine v_putI C fl_RX8_66 rfl (hs.1 39 _ rfl) dX8_keep_5 ?_
  refine v_aload_n C dX8_keep_8 rfl ?_
  refine v_iconst 0 C dX8_keep_9 (by decide) ?_
  refine v_putI C fl_RX8_69 rfl (hs.1 39 _ rfl) dX8_keep_10 ?_
  refine v_iconst 0 C dX8_keep_13 (by decide) ?_
  refine v_istore C dX8_keep_14 (Nat.le_of_ble_eq_true rfl) rfl ?_
  exact loop 6 5 0 _ (by decide) (by omega) (fun a h1 h2 => by rw [iu_ne a h1, iu_ne a h1]) (fun k hk => by rw [iu_k (show k ≠ 7 by omega), iu_k (show k ≠ 6 by omega)]) rfl rfl (fun k hk => absurd hk (Nat.not_lt_zero _))
