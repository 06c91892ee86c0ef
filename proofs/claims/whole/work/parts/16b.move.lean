theorem at_w {x y : Int32} {n : Nat} (h : x = y) (hy : At y n (ix y)) : At x n (ix y) := by
  subst h
  exact ⟨rfl, hy.2⟩
set_option maxHeartbeats 4000000 in
set_option maxRecDepth 100000 in
theorem c_X11_from {lnc : Launch} {E : En} {sh : List Sh} {I : IM} {J : JM} {R : RM} {s y : Nat} (hs : St sh R) (h1 : s < 5) (h2 : y < 10) : Ct lnc E yX11_from cX11_from 6 (some .int) 0 0 [.ref 47, .int (nI y), .int (nI s)] sh I J R 0 0 (m_ret (some (.int (frF (vF I y s)))) sh I J R) := by
  refine Ct.of (lv := [some (.ref 47), some (.int (nI y)), some (.int (nI s)), none, none, none]) (by decide) (Nat.le_of_ble_eq_true rfl) rfl (fun X hX C => ?_)
  have one : ∀ (k : Nat) (x b : Int32), k < 5 → x = nI k → V E X (m_Z E X (m_ret (some (.int (frF (vF I y s)))) sh I J R) 0 0) 0 0 sh I J R 65 [some (.ref 47), some (.int (nI y)), some (.int (nI s)), some (.int (mi b (vF I y s k))), some (.int x), none] [] → V E X (m_Z E X (m_ret (some (.int (frF (vF I y s)))) sh I J R) 0 0) 0 0 sh I J R 12 [some (.ref 47), some (.int (nI y)), some (.int (nI s)), some (.int b), some (.int x), none] [] := by
    intro k x b hk hx hc
    refine v_aload_n C dX11_from_12 rfl ?_
    refine v_getR 87 C fl_RX11_131 rfl (hs.1 47 _ rfl) (hs.2 47 54 87 rfl) dX11_from_13 ?_
    refine v_iconst 5 C dX11_from_16 (by decide) ?_
    refine v_iload_n C dX11_from_17 rfl ?_
    refine v_imul C dX11_from_18 ?_
    refine v_iload C dX11_from_19 rfl ?_
    refine v_iadd C dX11_from_21 ?_
    refine v_iaload (5 * s + k) C (hs.1 87 _ rfl) (at_e (by rw [hx]; exact idx5r s k) (by omega) (by decide)) dX11_from_22 ?_
    refine v_aload_n C dX11_from_23 rfl ?_
    refine v_getR 86 C fl_RX11_128 rfl (hs.1 47 _ rfl) (hs.2 47 53 86 rfl) dX11_from_24 ?_
    refine v_bipush 10 C dX11_from_27 (by decide) ?_
    refine v_iload C dX11_from_29 rfl ?_
    refine v_imul C dX11_from_31 ?_
    refine v_iload_n C dX11_from_32 rfl ?_
    refine v_iadd C dX11_from_33 ?_
    refine v_iaload (10 * k + y) C (hs.1 86 _ rfl) (at_e (by rw [hx]; exact idx10r k y) (by omega) (by decide)) dX11_from_34 ?_
    refine v_iadd C dX11_from_35 ?_
    refine v_aload_n C dX11_from_36 rfl ?_
    refine v_getR 88 C fl_RX11_134 rfl (hs.1 47 _ rfl) (hs.2 47 55 88 rfl) dX11_from_37 ?_
    refine v_iconst 5 C dX11_from_40 (by decide) ?_
    refine v_iload_n C dX11_from_41 rfl ?_
    refine v_iconst 1 C dX11_from_42 (by decide) ?_
    refine v_iadd C dX11_from_43 ?_
    refine v_eqi (nI_1 y) ?_
    refine v_imul C dX11_from_44 ?_
    refine v_iload C dX11_from_45 rfl ?_
    refine v_iadd C dX11_from_47 ?_
    refine v_iaload (5 * (y + 1) + k) C (hs.1 88 _ rfl) (at_e (by rw [hx]; exact idx5r (y + 1) k) (by omega) (by decide)) dX11_from_48 ?_
    refine v_iadd C dX11_from_49 ?_
    refine v_istore C dX11_from_50 (Nat.le_of_ble_eq_true rfl) rfl ?_
    refine v_iload C dX11_from_52 rfl ?_
    refine v_iload_n C dX11_from_54 rfl ?_
    refine v_icmp_ge 63 C dX11_from_55 (by decide) (fun h55 => ?_) (fun h55 => ?_)
    · refine v_iload_n C dX11_from_63 rfl ?_
      refine v_eqi (show _ = mi b (vF I y s k) by first | exact (if_pos h55).symm | exact (if_neg h55).symm) ?_
      refine v_istore_n C dX11_from_64 (Nat.le_of_ble_eq_true rfl) rfl ?_
      exact v_drop 5 hc
    · refine v_iload C dX11_from_58 rfl ?_
      refine v_goto 64 C dX11_from_60 (by decide) ?_
      refine v_eqi (show _ = mi b (vF I y s k) by first | exact (if_pos h55).symm | exact (if_neg h55).symm) ?_
      refine v_istore_n C dX11_from_64 (Nat.le_of_ble_eq_true rfl) rfl ?_
      exact v_drop 5 hc
  refine v_ldc 2147483647 C ct_RX11_236 dX11_from_0 ?_
  refine v_istore_n C dX11_from_2 (Nat.le_of_ble_eq_true rfl) rfl ?_
  refine v_iconst 0 C dX11_from_3 (by decide) ?_
  refine v_istore C dX11_from_4 (Nat.le_of_ble_eq_true rfl) rfl ?_
  refine v_iload C dX11_from_6 rfl ?_
  refine v_iconst 5 C dX11_from_8 (by decide) ?_
  refine v_icmp_ge 71 C dX11_from_9 (by decide) (fun h9 => absurd h9 (by decide)) (fun _ => ?_)
  refine one 0 _ _ (by decide) rfl ?_
  refine v_iinc 1 C dX11_from_65 rfl (by decide) (Nat.le_of_ble_eq_true rfl) rfl ?_
  refine v_goto 6 C dX11_from_68 (by decide) ?_
  refine v_iload C dX11_from_6 rfl ?_
  refine v_iconst 5 C dX11_from_8 (by decide) ?_
  refine v_icmp_ge 71 C dX11_from_9 (by decide) (fun h9 => absurd h9 (by decide)) (fun _ => ?_)
  refine one 1 _ _ (by decide) rfl ?_
  refine v_iinc 2 C dX11_from_65 rfl (by decide) (Nat.le_of_ble_eq_true rfl) rfl ?_
  refine v_goto 6 C dX11_from_68 (by decide) ?_
  refine v_iload C dX11_from_6 rfl ?_
  refine v_iconst 5 C dX11_from_8 (by decide) ?_
  refine v_icmp_ge 71 C dX11_from_9 (by decide) (fun h9 => absurd h9 (by decide)) (fun _ => ?_)
  refine one 2 _ _ (by decide) rfl ?_
  refine v_iinc 3 C dX11_from_65 rfl (by decide) (Nat.le_of_ble_eq_true rfl) rfl ?_
  refine v_goto 6 C dX11_from_68 (by decide) ?_
  refine v_iload C dX11_from_6 rfl ?_
  refine v_iconst 5 C dX11_from_8 (by decide) ?_
  refine v_icmp_ge 71 C dX11_from_9 (by decide) (fun h9 => absurd h9 (by decide)) (fun _ => ?_)
  refine one 3 _ _ (by decide) rfl ?_
  refine v_iinc 4 C dX11_from_65 rfl (by decide) (Nat.le_of_ble_eq_true rfl) rfl ?_
  refine v_goto 6 C dX11_from_68 (by decide) ?_
  refine v_iload C dX11_from_6 rfl ?_
  refine v_iconst 5 C dX11_from_8 (by decide) ?_
  refine v_icmp_ge 71 C dX11_from_9 (by decide) (fun h9 => absurd h9 (by decide)) (fun _ => ?_)
  refine one 4 _ _ (by decide) rfl ?_
  refine v_iinc 5 C dX11_from_65 rfl (by decide) (Nat.le_of_ble_eq_true rfl) rfl ?_
  refine v_goto 6 C dX11_from_68 (by decide) ?_
  refine v_iload C dX11_from_6 rfl ?_
  refine v_iconst 5 C dX11_from_8 (by decide) ?_
  refine v_icmp_ge 71 C dX11_from_9 (by decide) (fun _ => ?_) (fun h9 => absurd h9 (by decide))
  refine v_iload_n C dX11_from_71 rfl ?_
  exact v_iret C dX11_from_72 ⟨rfl, rfl, rfl, rfl, rfl⟩

set_option maxHeartbeats 4000000 in
set_option maxRecDepth 100000 in
theorem c_X11_moveN {lnc : Launch} {E : En} {sh : List Sh} {I : IM} {J : JM} {R : RM} {yy : Nat} (hs : St sh R) (h1 : 1 ≤ yy) (h2 : yy ≤ 10) (hsite : At (I 47 1) 5 (ix (I 47 1))) : Ct lnc E yX11_move cX11_move 5 (some .int) 1 25 [.ref 47, .int (nI yy)] sh I J R 0 0 (m_ret (some (.int (moveIm I yy (ix (I 47 1)) 88 (ix (I 47 1))))) sh (moveIm I yy (ix (I 47 1))) J R) := by
  refine Ct.of (lv := [some (.ref 47), some (.int (nI yy)), none, none, none]) (by decide) (Nat.le_of_ble_eq_true rfl) rfl (fun X hX C => ?_)
  have lp1 : ∀ (fuel : Nat) (m : Nat) (Ii : IM), m < fuel → m ≤ yy → V E X (m_Z E X (m_ret (some (.int (moveIm I yy (ix (I 47 1)) 88 (ix (I 47 1))))) sh (moveIm I yy (ix (I 47 1))) J R) 0 0) 0 0 sh (planM m Ii) J R 79 [some (.ref 47), some (.int (nI yy)), none, none, none] [] → V E X (m_Z E X (m_ret (some (.int (moveIm I yy (ix (I 47 1)) 88 (ix (I 47 1))))) sh (moveIm I yy (ix (I 47 1))) J R) 0 0) 0 0 sh Ii J R 40 [some (.ref 47), some (.int (nI yy)), some (.int (nI m - 1)), none, none] [] := by
    intro fuel
    induction fuel with
    | zero => intro m Ii hfuel; exact absurd hfuel (Nat.not_lt_zero _)
    | succ fuel ih =>
      intro m Ii hfuel hm hx
      refine v_iload_n C dX11_move_40 rfl ?_
      refine v_if_lt 79 C dX11_move_41 (by decide) (fun h41 => ?_) (fun h41 => ?_)
      · obtain rfl := nI_neg h41 (by omega)
        exact v_drop 2 hx
      · obtain ⟨m, rfl⟩ := nI_nneg h41
        rw [nI_m1]
        refine v_iconst 0 C dX11_move_44 (by decide) ?_
        refine v_istore_n C dX11_move_45 (Nat.le_of_ble_eq_true rfl) rfl ?_
        refine v_iload_n C dX11_move_46 rfl ?_
        refine v_iconst 5 C dX11_move_47 (by decide) ?_
        refine v_icmp_ge 73 C dX11_move_48 (by decide) (fun h48 => absurd h48 (by decide)) (fun _ => ?_)
        refine v_aload_n C dX11_move_51 rfl ?_
        refine v_getR 88 C fl_RX11_134 rfl (hs.1 47 _ rfl) (hs.2 47 55 88 rfl) dX11_move_52 ?_
        refine v_iconst 5 C dX11_move_55 (by decide) ?_
        refine v_iload_n C dX11_move_56 rfl ?_
        refine v_imul C dX11_move_57 ?_
        refine v_iload_n C dX11_move_58 rfl ?_
        refine v_iadd C dX11_move_59 ?_
        refine v_aload_n C dX11_move_60 rfl ?_
        refine v_iload_n C dX11_move_61 rfl ?_
        refine v_iload_n C dX11_move_62 rfl ?_
        refine v_callVi C (c_X11_from (s := 0) (y := m) hs (by decide) (by omega)) mt_X11_from lk_RX11_237 rfl rfl (hs.1 47 _ rfl) rfl rfl rfl rfl rfl dX11_move_63 ?_
        refine v_iastore (5 * m + 0) C (hs.1 88 _ rfl) (at_e (idx5r m 0) (by omega) (by decide)) dX11_move_66 ?_
        refine v_iinc 1 C dX11_move_67 rfl (by decide) (Nat.le_of_ble_eq_true rfl) rfl ?_
        refine v_goto 46 C dX11_move_70 (by decide) ?_
        refine v_iload_n C dX11_move_46 rfl ?_
        refine v_iconst 5 C dX11_move_47 (by decide) ?_
        refine v_icmp_ge 73 C dX11_move_48 (by decide) (fun h48 => absurd h48 (by decide)) (fun _ => ?_)
        refine v_aload_n C dX11_move_51 rfl ?_
        refine v_getR 88 C fl_RX11_134 rfl (hs.1 47 _ rfl) (hs.2 47 55 88 rfl) dX11_move_52 ?_
        refine v_iconst 5 C dX11_move_55 (by decide) ?_
        refine v_iload_n C dX11_move_56 rfl ?_
        refine v_imul C dX11_move_57 ?_
        refine v_iload_n C dX11_move_58 rfl ?_
        refine v_iadd C dX11_move_59 ?_
        refine v_aload_n C dX11_move_60 rfl ?_
        refine v_iload_n C dX11_move_61 rfl ?_
        refine v_iload_n C dX11_move_62 rfl ?_
        refine v_callVi C (c_X11_from (s := 1) (y := m) hs (by decide) (by omega)) mt_X11_from lk_RX11_237 rfl rfl (hs.1 47 _ rfl) rfl rfl rfl rfl rfl dX11_move_63 ?_
        refine v_iastore (5 * m + 1) C (hs.1 88 _ rfl) (at_e (idx5r m 1) (by omega) (by decide)) dX11_move_66 ?_
        refine v_iinc 2 C dX11_move_67 rfl (by decide) (Nat.le_of_ble_eq_true rfl) rfl ?_
        refine v_goto 46 C dX11_move_70 (by decide) ?_
        refine v_iload_n C dX11_move_46 rfl ?_
        refine v_iconst 5 C dX11_move_47 (by decide) ?_
        refine v_icmp_ge 73 C dX11_move_48 (by decide) (fun h48 => absurd h48 (by decide)) (fun _ => ?_)
        refine v_aload_n C dX11_move_51 rfl ?_
        refine v_getR 88 C fl_RX11_134 rfl (hs.1 47 _ rfl) (hs.2 47 55 88 rfl) dX11_move_52 ?_
        refine v_iconst 5 C dX11_move_55 (by decide) ?_
        refine v_iload_n C dX11_move_56 rfl ?_
        refine v_imul C dX11_move_57 ?_
        refine v_iload_n C dX11_move_58 rfl ?_
        refine v_iadd C dX11_move_59 ?_
        refine v_aload_n C dX11_move_60 rfl ?_
        refine v_iload_n C dX11_move_61 rfl ?_
        refine v_iload_n C dX11_move_62 rfl ?_
        refine v_callVi C (c_X11_from (s := 2) (y := m) hs (by decide) (by omega)) mt_X11_from lk_RX11_237 rfl rfl (hs.1 47 _ rfl) rfl rfl rfl rfl rfl dX11_move_63 ?_
        refine v_iastore (5 * m + 2) C (hs.1 88 _ rfl) (at_e (idx5r m 2) (by omega) (by decide)) dX11_move_66 ?_
        refine v_iinc 3 C dX11_move_67 rfl (by decide) (Nat.le_of_ble_eq_true rfl) rfl ?_
        refine v_goto 46 C dX11_move_70 (by decide) ?_
        refine v_iload_n C dX11_move_46 rfl ?_
        refine v_iconst 5 C dX11_move_47 (by decide) ?_
        refine v_icmp_ge 73 C dX11_move_48 (by decide) (fun h48 => absurd h48 (by decide)) (fun _ => ?_)
        refine v_aload_n C dX11_move_51 rfl ?_
        refine v_getR 88 C fl_RX11_134 rfl (hs.1 47 _ rfl) (hs.2 47 55 88 rfl) dX11_move_52 ?_
        refine v_iconst 5 C dX11_move_55 (by decide) ?_
        refine v_iload_n C dX11_move_56 rfl ?_
        refine v_imul C dX11_move_57 ?_
        refine v_iload_n C dX11_move_58 rfl ?_
        refine v_iadd C dX11_move_59 ?_
        refine v_aload_n C dX11_move_60 rfl ?_
        refine v_iload_n C dX11_move_61 rfl ?_
        refine v_iload_n C dX11_move_62 rfl ?_
        refine v_callVi C (c_X11_from (s := 3) (y := m) hs (by decide) (by omega)) mt_X11_from lk_RX11_237 rfl rfl (hs.1 47 _ rfl) rfl rfl rfl rfl rfl dX11_move_63 ?_
        refine v_iastore (5 * m + 3) C (hs.1 88 _ rfl) (at_e (idx5r m 3) (by omega) (by decide)) dX11_move_66 ?_
        refine v_iinc 4 C dX11_move_67 rfl (by decide) (Nat.le_of_ble_eq_true rfl) rfl ?_
        refine v_goto 46 C dX11_move_70 (by decide) ?_
        refine v_iload_n C dX11_move_46 rfl ?_
        refine v_iconst 5 C dX11_move_47 (by decide) ?_
        refine v_icmp_ge 73 C dX11_move_48 (by decide) (fun h48 => absurd h48 (by decide)) (fun _ => ?_)
        refine v_aload_n C dX11_move_51 rfl ?_
        refine v_getR 88 C fl_RX11_134 rfl (hs.1 47 _ rfl) (hs.2 47 55 88 rfl) dX11_move_52 ?_
        refine v_iconst 5 C dX11_move_55 (by decide) ?_
        refine v_iload_n C dX11_move_56 rfl ?_
        refine v_imul C dX11_move_57 ?_
        refine v_iload_n C dX11_move_58 rfl ?_
        refine v_iadd C dX11_move_59 ?_
        refine v_aload_n C dX11_move_60 rfl ?_
        refine v_iload_n C dX11_move_61 rfl ?_
        refine v_iload_n C dX11_move_62 rfl ?_
        refine v_callVi C (c_X11_from (s := 4) (y := m) hs (by decide) (by omega)) mt_X11_from lk_RX11_237 rfl rfl (hs.1 47 _ rfl) rfl rfl rfl rfl rfl dX11_move_63 ?_
        refine v_iastore (5 * m + 4) C (hs.1 88 _ rfl) (at_e (idx5r m 4) (by omega) (by decide)) dX11_move_66 ?_
        refine v_iinc 5 C dX11_move_67 rfl (by decide) (Nat.le_of_ble_eq_true rfl) rfl ?_
        refine v_goto 46 C dX11_move_70 (by decide) ?_
        refine v_iload_n C dX11_move_46 rfl ?_
        refine v_iconst 5 C dX11_move_47 (by decide) ?_
        refine v_icmp_ge 73 C dX11_move_48 (by decide) (fun _ => ?_) (fun h48 => absurd h48 (by decide))
        refine v_eqI (show _ = frow m Ii from rfl) ?_
        refine v_iinc (nI m - 1) C dX11_move_73 rfl (nI_decm m) (Nat.le_of_ble_eq_true rfl) rfl ?_
        refine v_goto 40 C dX11_move_76 (by decide) ?_
        refine v_drop 3 ?_
        exact ih m (frow m Ii) (lt_fuel hfuel) (by omega) hx
  have lp2 : ∀ (fuel : Nat) (m q s : Nat) (Ii : IM), m < fuel → q + m = yy → s < 5 → (∀ q s, q < yy → s < 5 → ∃ t, t < 5 ∧ vF Ii q s t = Ii 88 (5 * q + s)) → V E X (m_Z E X (m_ret (some (.int (moveIm I yy (ix (I 47 1)) 88 (ix (I 47 1))))) sh (moveIm I yy (ix (I 47 1))) J R) 0 0) 0 0 sh (mvM m q s Ii) J R 168 [some (.ref 47), some (.int (nI yy)), none, none, none] [] → V E X (m_Z E X (m_ret (some (.int (moveIm I yy (ix (I 47 1)) 88 (ix (I 47 1))))) sh (moveIm I yy (ix (I 47 1))) J R) 0 0) 0 0 sh Ii J R 86 [some (.ref 47), some (.int (nI yy)), some (.int (nI s)), some (.int (nI q)), none] [] := by
    intro fuel
    induction fuel with
    | zero => intro m q s Ii hfuel; exact absurd hfuel (Nat.not_lt_zero _)
    | succ fuel ih =>
      intro m q s Ii hfuel hk hs5 hex hx
      refine v_iload_n C dX11_move_86 rfl ?_
      refine v_iload_n C dX11_move_87 rfl ?_
      refine v_icmp_ge 168 C dX11_move_88 (by decide) (fun h88 => ?_) (fun h88 => ?_)
      · have hqn := nI_le_of h88 (by omega) (by omega)
        obtain rfl : m = 0 := by omega
        exact v_drop 2 (v_drop 3 hx)
      · have hqn := nI_lt_of h88 (by omega)
        obtain ⟨m, rfl⟩ : ∃ m2, m = m2 + 1 := ⟨m - 1, by omega⟩
        refine v_iconst 0 C dX11_move_91 (by decide) ?_
        refine v_istore C dX11_move_92 (Nat.le_of_ble_eq_true rfl) rfl ?_
        refine v_aload_n C dX11_move_94 rfl ?_
        refine v_getR 87 C fl_RX11_131 rfl (hs.1 47 _ rfl) (hs.2 47 54 87 rfl) dX11_move_95 ?_
        refine v_iconst 5 C dX11_move_98 (by decide) ?_
        refine v_iload_n C dX11_move_99 rfl ?_
        refine v_imul C dX11_move_100 ?_
        refine v_iload C dX11_move_101 rfl ?_
        refine v_iadd C dX11_move_103 ?_
        refine v_iaload (5 * s + 0) C (hs.1 87 _ rfl) (at_e (idx5r s 0) (by omega) (by decide)) dX11_move_104 ?_
        refine v_aload_n C dX11_move_105 rfl ?_
        refine v_getR 86 C fl_RX11_128 rfl (hs.1 47 _ rfl) (hs.2 47 53 86 rfl) dX11_move_106 ?_
        refine v_bipush 10 C dX11_move_109 (by decide) ?_
        refine v_iload C dX11_move_111 rfl ?_
        refine v_imul C dX11_move_113 ?_
        refine v_iload_n C dX11_move_114 rfl ?_
        refine v_iadd C dX11_move_115 ?_
        refine v_iaload (10 * 0 + q) C (hs.1 86 _ rfl) (at_e (idx10r 0 q) (by omega) (by decide)) dX11_move_116 ?_
        refine v_iadd C dX11_move_117 ?_
        refine v_aload_n C dX11_move_118 rfl ?_
        refine v_getR 88 C fl_RX11_134 rfl (hs.1 47 _ rfl) (hs.2 47 55 88 rfl) dX11_move_119 ?_
        refine v_iconst 5 C dX11_move_122 (by decide) ?_
        refine v_iload_n C dX11_move_123 rfl ?_
        refine v_iconst 1 C dX11_move_124 (by decide) ?_
        refine v_iadd C dX11_move_125 ?_
        refine v_eqi (nI_1 q) ?_
        refine v_imul C dX11_move_126 ?_
        refine v_iload C dX11_move_127 rfl ?_
        refine v_iadd C dX11_move_129 ?_
        refine v_iaload (5 * (q + 1) + 0) C (hs.1 88 _ rfl) (at_e (idx5r (q + 1) 0) (by omega) (by decide)) dX11_move_130 ?_
        refine v_iadd C dX11_move_131 ?_
        refine v_aload_n C dX11_move_132 rfl ?_
        refine v_getR 88 C fl_RX11_134 rfl (hs.1 47 _ rfl) (hs.2 47 55 88 rfl) dX11_move_133 ?_
        refine v_iconst 5 C dX11_move_136 (by decide) ?_
        refine v_iload_n C dX11_move_137 rfl ?_
        refine v_imul C dX11_move_138 ?_
        refine v_iload_n C dX11_move_139 rfl ?_
        refine v_iadd C dX11_move_140 ?_
        refine v_iaload (5 * q + s) C (hs.1 88 _ rfl) (at_e (idx5r q s) (by omega) (by decide)) dX11_move_141 ?_
        refine v_icmp_eq 151 C dX11_move_142 (by decide) (fun e0 => ?_) (fun e0 => ?_)
        · have n0 : vF Ii q s 0 = Ii 88 (5 * q + s) := e0
          have hc : fsF (vF Ii q s) (Ii 88 (5 * q + s)) = 0 := by simp [fsF, n0]
          refine v_aload_n C dX11_move_151 rfl ?_
          refine v_getR 89 C fl_RX11_137 rfl (hs.1 47 _ rfl) (hs.2 47 57 89 rfl) dX11_move_152 ?_
          refine v_iload_n C dX11_move_155 rfl ?_
          refine v_iload C dX11_move_156 rfl ?_
          refine v_iastore q C (hs.1 89 _ rfl) (at_nI (by omega) (by decide)) dX11_move_158 ?_
          refine v_iload C dX11_move_159 rfl ?_
          refine v_istore_n C dX11_move_161 (Nat.le_of_ble_eq_true rfl) rfl ?_
          refine v_iinc (nI (q + 1)) C dX11_move_162 rfl (nI_1 q) (Nat.le_of_ble_eq_true rfl) rfl ?_
          refine v_goto 86 C dX11_move_165 (by decide) ?_
          refine v_drop 4 ?_
          have hx2 := hx
          unfold mvM at hx2
          rw [hc] at hx2
          exact ih m (q + 1) _ _ (lt_fuel hfuel) (by omega) (by decide) (fun q2 s2 a b => hex q2 s2 a b) hx2
        · have n0 : ¬ vF Ii q s 0 = Ii 88 (5 * q + s) := e0
          refine v_iinc 1 C dX11_move_145 rfl (by decide) (Nat.le_of_ble_eq_true rfl) rfl ?_
          refine v_goto 94 C dX11_move_148 (by decide) ?_
          refine v_aload_n C dX11_move_94 rfl ?_
          refine v_getR 87 C fl_RX11_131 rfl (hs.1 47 _ rfl) (hs.2 47 54 87 rfl) dX11_move_95 ?_
          refine v_iconst 5 C dX11_move_98 (by decide) ?_
          refine v_iload_n C dX11_move_99 rfl ?_
          refine v_imul C dX11_move_100 ?_
          refine v_iload C dX11_move_101 rfl ?_
          refine v_iadd C dX11_move_103 ?_
          refine v_iaload (5 * s + 1) C (hs.1 87 _ rfl) (at_e (idx5r s 1) (by omega) (by decide)) dX11_move_104 ?_
          refine v_aload_n C dX11_move_105 rfl ?_
          refine v_getR 86 C fl_RX11_128 rfl (hs.1 47 _ rfl) (hs.2 47 53 86 rfl) dX11_move_106 ?_
          refine v_bipush 10 C dX11_move_109 (by decide) ?_
          refine v_iload C dX11_move_111 rfl ?_
          refine v_imul C dX11_move_113 ?_
          refine v_iload_n C dX11_move_114 rfl ?_
          refine v_iadd C dX11_move_115 ?_
          refine v_iaload (10 * 1 + q) C (hs.1 86 _ rfl) (at_e (idx10r 1 q) (by omega) (by decide)) dX11_move_116 ?_
          refine v_iadd C dX11_move_117 ?_
          refine v_aload_n C dX11_move_118 rfl ?_
          refine v_getR 88 C fl_RX11_134 rfl (hs.1 47 _ rfl) (hs.2 47 55 88 rfl) dX11_move_119 ?_
          refine v_iconst 5 C dX11_move_122 (by decide) ?_
          refine v_iload_n C dX11_move_123 rfl ?_
          refine v_iconst 1 C dX11_move_124 (by decide) ?_
          refine v_iadd C dX11_move_125 ?_
          refine v_eqi (nI_1 q) ?_
          refine v_imul C dX11_move_126 ?_
          refine v_iload C dX11_move_127 rfl ?_
          refine v_iadd C dX11_move_129 ?_
          refine v_iaload (5 * (q + 1) + 1) C (hs.1 88 _ rfl) (at_e (idx5r (q + 1) 1) (by omega) (by decide)) dX11_move_130 ?_
          refine v_iadd C dX11_move_131 ?_
          refine v_aload_n C dX11_move_132 rfl ?_
          refine v_getR 88 C fl_RX11_134 rfl (hs.1 47 _ rfl) (hs.2 47 55 88 rfl) dX11_move_133 ?_
          refine v_iconst 5 C dX11_move_136 (by decide) ?_
          refine v_iload_n C dX11_move_137 rfl ?_
          refine v_imul C dX11_move_138 ?_
          refine v_iload_n C dX11_move_139 rfl ?_
          refine v_iadd C dX11_move_140 ?_
          refine v_iaload (5 * q + s) C (hs.1 88 _ rfl) (at_e (idx5r q s) (by omega) (by decide)) dX11_move_141 ?_
          refine v_icmp_eq 151 C dX11_move_142 (by decide) (fun e1 => ?_) (fun e1 => ?_)
          · have n1 : vF Ii q s 1 = Ii 88 (5 * q + s) := e1
            have hc : fsF (vF Ii q s) (Ii 88 (5 * q + s)) = 1 := by simp [fsF, n0, n1]
            refine v_aload_n C dX11_move_151 rfl ?_
            refine v_getR 89 C fl_RX11_137 rfl (hs.1 47 _ rfl) (hs.2 47 57 89 rfl) dX11_move_152 ?_
            refine v_iload_n C dX11_move_155 rfl ?_
            refine v_iload C dX11_move_156 rfl ?_
            refine v_iastore q C (hs.1 89 _ rfl) (at_nI (by omega) (by decide)) dX11_move_158 ?_
            refine v_iload C dX11_move_159 rfl ?_
            refine v_istore_n C dX11_move_161 (Nat.le_of_ble_eq_true rfl) rfl ?_
            refine v_iinc (nI (q + 1)) C dX11_move_162 rfl (nI_1 q) (Nat.le_of_ble_eq_true rfl) rfl ?_
            refine v_goto 86 C dX11_move_165 (by decide) ?_
            refine v_drop 4 ?_
            have hx2 := hx
            unfold mvM at hx2
            rw [hc] at hx2
            exact ih m (q + 1) _ _ (lt_fuel hfuel) (by omega) (by decide) (fun q2 s2 a b => hex q2 s2 a b) hx2
          · have n1 : ¬ vF Ii q s 1 = Ii 88 (5 * q + s) := e1
            refine v_iinc 2 C dX11_move_145 rfl (by decide) (Nat.le_of_ble_eq_true rfl) rfl ?_
            refine v_goto 94 C dX11_move_148 (by decide) ?_
            refine v_aload_n C dX11_move_94 rfl ?_
            refine v_getR 87 C fl_RX11_131 rfl (hs.1 47 _ rfl) (hs.2 47 54 87 rfl) dX11_move_95 ?_
            refine v_iconst 5 C dX11_move_98 (by decide) ?_
            refine v_iload_n C dX11_move_99 rfl ?_
            refine v_imul C dX11_move_100 ?_
            refine v_iload C dX11_move_101 rfl ?_
            refine v_iadd C dX11_move_103 ?_
            refine v_iaload (5 * s + 2) C (hs.1 87 _ rfl) (at_e (idx5r s 2) (by omega) (by decide)) dX11_move_104 ?_
            refine v_aload_n C dX11_move_105 rfl ?_
            refine v_getR 86 C fl_RX11_128 rfl (hs.1 47 _ rfl) (hs.2 47 53 86 rfl) dX11_move_106 ?_
            refine v_bipush 10 C dX11_move_109 (by decide) ?_
            refine v_iload C dX11_move_111 rfl ?_
            refine v_imul C dX11_move_113 ?_
            refine v_iload_n C dX11_move_114 rfl ?_
            refine v_iadd C dX11_move_115 ?_
            refine v_iaload (10 * 2 + q) C (hs.1 86 _ rfl) (at_e (idx10r 2 q) (by omega) (by decide)) dX11_move_116 ?_
            refine v_iadd C dX11_move_117 ?_
            refine v_aload_n C dX11_move_118 rfl ?_
            refine v_getR 88 C fl_RX11_134 rfl (hs.1 47 _ rfl) (hs.2 47 55 88 rfl) dX11_move_119 ?_
            refine v_iconst 5 C dX11_move_122 (by decide) ?_
            refine v_iload_n C dX11_move_123 rfl ?_
            refine v_iconst 1 C dX11_move_124 (by decide) ?_
            refine v_iadd C dX11_move_125 ?_
            refine v_eqi (nI_1 q) ?_
            refine v_imul C dX11_move_126 ?_
            refine v_iload C dX11_move_127 rfl ?_
            refine v_iadd C dX11_move_129 ?_
            refine v_iaload (5 * (q + 1) + 2) C (hs.1 88 _ rfl) (at_e (idx5r (q + 1) 2) (by omega) (by decide)) dX11_move_130 ?_
            refine v_iadd C dX11_move_131 ?_
            refine v_aload_n C dX11_move_132 rfl ?_
            refine v_getR 88 C fl_RX11_134 rfl (hs.1 47 _ rfl) (hs.2 47 55 88 rfl) dX11_move_133 ?_
            refine v_iconst 5 C dX11_move_136 (by decide) ?_
            refine v_iload_n C dX11_move_137 rfl ?_
            refine v_imul C dX11_move_138 ?_
            refine v_iload_n C dX11_move_139 rfl ?_
            refine v_iadd C dX11_move_140 ?_
            refine v_iaload (5 * q + s) C (hs.1 88 _ rfl) (at_e (idx5r q s) (by omega) (by decide)) dX11_move_141 ?_
            refine v_icmp_eq 151 C dX11_move_142 (by decide) (fun e2 => ?_) (fun e2 => ?_)
            · have n2 : vF Ii q s 2 = Ii 88 (5 * q + s) := e2
              have hc : fsF (vF Ii q s) (Ii 88 (5 * q + s)) = 2 := by simp [fsF, n0, n1, n2]
              refine v_aload_n C dX11_move_151 rfl ?_
              refine v_getR 89 C fl_RX11_137 rfl (hs.1 47 _ rfl) (hs.2 47 57 89 rfl) dX11_move_152 ?_
              refine v_iload_n C dX11_move_155 rfl ?_
              refine v_iload C dX11_move_156 rfl ?_
              refine v_iastore q C (hs.1 89 _ rfl) (at_nI (by omega) (by decide)) dX11_move_158 ?_
              refine v_iload C dX11_move_159 rfl ?_
              refine v_istore_n C dX11_move_161 (Nat.le_of_ble_eq_true rfl) rfl ?_
              refine v_iinc (nI (q + 1)) C dX11_move_162 rfl (nI_1 q) (Nat.le_of_ble_eq_true rfl) rfl ?_
              refine v_goto 86 C dX11_move_165 (by decide) ?_
              refine v_drop 4 ?_
              have hx2 := hx
              unfold mvM at hx2
              rw [hc] at hx2
              exact ih m (q + 1) _ _ (lt_fuel hfuel) (by omega) (by decide) (fun q2 s2 a b => hex q2 s2 a b) hx2
            · have n2 : ¬ vF Ii q s 2 = Ii 88 (5 * q + s) := e2
              refine v_iinc 3 C dX11_move_145 rfl (by decide) (Nat.le_of_ble_eq_true rfl) rfl ?_
              refine v_goto 94 C dX11_move_148 (by decide) ?_
              refine v_aload_n C dX11_move_94 rfl ?_
              refine v_getR 87 C fl_RX11_131 rfl (hs.1 47 _ rfl) (hs.2 47 54 87 rfl) dX11_move_95 ?_
              refine v_iconst 5 C dX11_move_98 (by decide) ?_
              refine v_iload_n C dX11_move_99 rfl ?_
              refine v_imul C dX11_move_100 ?_
              refine v_iload C dX11_move_101 rfl ?_
              refine v_iadd C dX11_move_103 ?_
              refine v_iaload (5 * s + 3) C (hs.1 87 _ rfl) (at_e (idx5r s 3) (by omega) (by decide)) dX11_move_104 ?_
              refine v_aload_n C dX11_move_105 rfl ?_
              refine v_getR 86 C fl_RX11_128 rfl (hs.1 47 _ rfl) (hs.2 47 53 86 rfl) dX11_move_106 ?_
              refine v_bipush 10 C dX11_move_109 (by decide) ?_
              refine v_iload C dX11_move_111 rfl ?_
              refine v_imul C dX11_move_113 ?_
              refine v_iload_n C dX11_move_114 rfl ?_
              refine v_iadd C dX11_move_115 ?_
              refine v_iaload (10 * 3 + q) C (hs.1 86 _ rfl) (at_e (idx10r 3 q) (by omega) (by decide)) dX11_move_116 ?_
              refine v_iadd C dX11_move_117 ?_
              refine v_aload_n C dX11_move_118 rfl ?_
              refine v_getR 88 C fl_RX11_134 rfl (hs.1 47 _ rfl) (hs.2 47 55 88 rfl) dX11_move_119 ?_
              refine v_iconst 5 C dX11_move_122 (by decide) ?_
              refine v_iload_n C dX11_move_123 rfl ?_
              refine v_iconst 1 C dX11_move_124 (by decide) ?_
              refine v_iadd C dX11_move_125 ?_
              refine v_eqi (nI_1 q) ?_
              refine v_imul C dX11_move_126 ?_
              refine v_iload C dX11_move_127 rfl ?_
              refine v_iadd C dX11_move_129 ?_
              refine v_iaload (5 * (q + 1) + 3) C (hs.1 88 _ rfl) (at_e (idx5r (q + 1) 3) (by omega) (by decide)) dX11_move_130 ?_
              refine v_iadd C dX11_move_131 ?_
              refine v_aload_n C dX11_move_132 rfl ?_
              refine v_getR 88 C fl_RX11_134 rfl (hs.1 47 _ rfl) (hs.2 47 55 88 rfl) dX11_move_133 ?_
              refine v_iconst 5 C dX11_move_136 (by decide) ?_
              refine v_iload_n C dX11_move_137 rfl ?_
              refine v_imul C dX11_move_138 ?_
              refine v_iload_n C dX11_move_139 rfl ?_
              refine v_iadd C dX11_move_140 ?_
              refine v_iaload (5 * q + s) C (hs.1 88 _ rfl) (at_e (idx5r q s) (by omega) (by decide)) dX11_move_141 ?_
              refine v_icmp_eq 151 C dX11_move_142 (by decide) (fun e3 => ?_) (fun e3 => ?_)
              · have n3 : vF Ii q s 3 = Ii 88 (5 * q + s) := e3
                have hc : fsF (vF Ii q s) (Ii 88 (5 * q + s)) = 3 := by simp [fsF, n0, n1, n2, n3]
                refine v_aload_n C dX11_move_151 rfl ?_
                refine v_getR 89 C fl_RX11_137 rfl (hs.1 47 _ rfl) (hs.2 47 57 89 rfl) dX11_move_152 ?_
                refine v_iload_n C dX11_move_155 rfl ?_
                refine v_iload C dX11_move_156 rfl ?_
                refine v_iastore q C (hs.1 89 _ rfl) (at_nI (by omega) (by decide)) dX11_move_158 ?_
                refine v_iload C dX11_move_159 rfl ?_
                refine v_istore_n C dX11_move_161 (Nat.le_of_ble_eq_true rfl) rfl ?_
                refine v_iinc (nI (q + 1)) C dX11_move_162 rfl (nI_1 q) (Nat.le_of_ble_eq_true rfl) rfl ?_
                refine v_goto 86 C dX11_move_165 (by decide) ?_
                refine v_drop 4 ?_
                have hx2 := hx
                unfold mvM at hx2
                rw [hc] at hx2
                exact ih m (q + 1) _ _ (lt_fuel hfuel) (by omega) (by decide) (fun q2 s2 a b => hex q2 s2 a b) hx2
              · have n3 : ¬ vF Ii q s 3 = Ii 88 (5 * q + s) := e3
                refine v_iinc 4 C dX11_move_145 rfl (by decide) (Nat.le_of_ble_eq_true rfl) rfl ?_
                refine v_goto 94 C dX11_move_148 (by decide) ?_
                refine v_aload_n C dX11_move_94 rfl ?_
                refine v_getR 87 C fl_RX11_131 rfl (hs.1 47 _ rfl) (hs.2 47 54 87 rfl) dX11_move_95 ?_
                refine v_iconst 5 C dX11_move_98 (by decide) ?_
                refine v_iload_n C dX11_move_99 rfl ?_
                refine v_imul C dX11_move_100 ?_
                refine v_iload C dX11_move_101 rfl ?_
                refine v_iadd C dX11_move_103 ?_
                refine v_iaload (5 * s + 4) C (hs.1 87 _ rfl) (at_e (idx5r s 4) (by omega) (by decide)) dX11_move_104 ?_
                refine v_aload_n C dX11_move_105 rfl ?_
                refine v_getR 86 C fl_RX11_128 rfl (hs.1 47 _ rfl) (hs.2 47 53 86 rfl) dX11_move_106 ?_
                refine v_bipush 10 C dX11_move_109 (by decide) ?_
                refine v_iload C dX11_move_111 rfl ?_
                refine v_imul C dX11_move_113 ?_
                refine v_iload_n C dX11_move_114 rfl ?_
                refine v_iadd C dX11_move_115 ?_
                refine v_iaload (10 * 4 + q) C (hs.1 86 _ rfl) (at_e (idx10r 4 q) (by omega) (by decide)) dX11_move_116 ?_
                refine v_iadd C dX11_move_117 ?_
                refine v_aload_n C dX11_move_118 rfl ?_
                refine v_getR 88 C fl_RX11_134 rfl (hs.1 47 _ rfl) (hs.2 47 55 88 rfl) dX11_move_119 ?_
                refine v_iconst 5 C dX11_move_122 (by decide) ?_
                refine v_iload_n C dX11_move_123 rfl ?_
                refine v_iconst 1 C dX11_move_124 (by decide) ?_
                refine v_iadd C dX11_move_125 ?_
                refine v_eqi (nI_1 q) ?_
                refine v_imul C dX11_move_126 ?_
                refine v_iload C dX11_move_127 rfl ?_
                refine v_iadd C dX11_move_129 ?_
                refine v_iaload (5 * (q + 1) + 4) C (hs.1 88 _ rfl) (at_e (idx5r (q + 1) 4) (by omega) (by decide)) dX11_move_130 ?_
                refine v_iadd C dX11_move_131 ?_
                refine v_aload_n C dX11_move_132 rfl ?_
                refine v_getR 88 C fl_RX11_134 rfl (hs.1 47 _ rfl) (hs.2 47 55 88 rfl) dX11_move_133 ?_
                refine v_iconst 5 C dX11_move_136 (by decide) ?_
                refine v_iload_n C dX11_move_137 rfl ?_
                refine v_imul C dX11_move_138 ?_
                refine v_iload_n C dX11_move_139 rfl ?_
                refine v_iadd C dX11_move_140 ?_
                refine v_iaload (5 * q + s) C (hs.1 88 _ rfl) (at_e (idx5r q s) (by omega) (by decide)) dX11_move_141 ?_
                refine v_icmp_eq 151 C dX11_move_142 (by decide) (fun e4 => ?_) (fun e4 => ?_)
                · have n4 : vF Ii q s 4 = Ii 88 (5 * q + s) := e4
                  have hc : fsF (vF Ii q s) (Ii 88 (5 * q + s)) = 4 := by simp [fsF, n0, n1, n2, n3, n4]
                  refine v_aload_n C dX11_move_151 rfl ?_
                  refine v_getR 89 C fl_RX11_137 rfl (hs.1 47 _ rfl) (hs.2 47 57 89 rfl) dX11_move_152 ?_
                  refine v_iload_n C dX11_move_155 rfl ?_
                  refine v_iload C dX11_move_156 rfl ?_
                  refine v_iastore q C (hs.1 89 _ rfl) (at_nI (by omega) (by decide)) dX11_move_158 ?_
                  refine v_iload C dX11_move_159 rfl ?_
                  refine v_istore_n C dX11_move_161 (Nat.le_of_ble_eq_true rfl) rfl ?_
                  refine v_iinc (nI (q + 1)) C dX11_move_162 rfl (nI_1 q) (Nat.le_of_ble_eq_true rfl) rfl ?_
                  refine v_goto 86 C dX11_move_165 (by decide) ?_
                  refine v_drop 4 ?_
                  have hx2 := hx
                  unfold mvM at hx2
                  rw [hc] at hx2
                  exact ih m (q + 1) _ _ (lt_fuel hfuel) (by omega) (by decide) (fun q2 s2 a b => hex q2 s2 a b) hx2
                · have n4 : ¬ vF Ii q s 4 = Ii 88 (5 * q + s) := e4
                  refine v_iinc 5 C dX11_move_145 rfl (by decide) (Nat.le_of_ble_eq_true rfl) rfl ?_
                  refine v_goto 94 C dX11_move_148 (by decide) ?_
                  obtain ⟨t, ht, he⟩ := hex q s (by omega) hs5
                  refine absurd he ?_
                  rcases (show t = 0 ∨ t = 1 ∨ t = 2 ∨ t = 3 ∨ t = 4 by omega) with rfl | rfl | rfl | rfl | rfl <;> assumption
  refine v_iload_n C dX11_move_0 rfl ?_
  refine v_iconst 1 C dX11_move_1 (by decide) ?_
  refine v_bipush 10 C dX11_move_2 (by decide) ?_
  refine v_callSi C c_X11_in mt_X11_in lk_RX11_140 rfl rfl rfl rfl rfl dX11_move_4 ?_
  refine v_if_ne 12 C dX11_move_7 (by decide) (fun h7 => ?_) (fun h7 => False.elim (wI_yy h1 h2 h7))
  refine v_iconst 0 C dX11_move_12 (by decide) ?_
  refine v_istore_n C dX11_move_13 (Nat.le_of_ble_eq_true rfl) rfl ?_
  refine v_iload_n C dX11_move_14 rfl ?_
  refine v_iconst 5 C dX11_move_15 (by decide) ?_
  refine v_icmp_ge 36 C dX11_move_16 (by decide) (fun h16 => absurd h16 (by decide)) (fun _ => ?_)
  refine v_aload_n C dX11_move_19 rfl ?_
  refine v_getR 88 C fl_RX11_134 rfl (hs.1 47 _ rfl) (hs.2 47 55 88 rfl) dX11_move_20 ?_
  refine v_iconst 5 C dX11_move_23 (by decide) ?_
  refine v_iload_n C dX11_move_24 rfl ?_
  refine v_imul C dX11_move_25 ?_
  refine v_iload_n C dX11_move_26 rfl ?_
  refine v_iadd C dX11_move_27 ?_
  refine v_iconst 0 C dX11_move_28 (by decide) ?_
  refine v_iastore (5 * yy + 0) C (hs.1 88 _ rfl) (at_e (idx5r yy 0) (by omega) (by decide)) dX11_move_29 ?_
  refine v_iinc 1 C dX11_move_30 rfl (by decide) (Nat.le_of_ble_eq_true rfl) rfl ?_
  refine v_goto 14 C dX11_move_33 (by decide) ?_
  refine v_iload_n C dX11_move_14 rfl ?_
  refine v_iconst 5 C dX11_move_15 (by decide) ?_
  refine v_icmp_ge 36 C dX11_move_16 (by decide) (fun h16 => absurd h16 (by decide)) (fun _ => ?_)
  refine v_aload_n C dX11_move_19 rfl ?_
  refine v_getR 88 C fl_RX11_134 rfl (hs.1 47 _ rfl) (hs.2 47 55 88 rfl) dX11_move_20 ?_
  refine v_iconst 5 C dX11_move_23 (by decide) ?_
  refine v_iload_n C dX11_move_24 rfl ?_
  refine v_imul C dX11_move_25 ?_
  refine v_iload_n C dX11_move_26 rfl ?_
  refine v_iadd C dX11_move_27 ?_
  refine v_iconst 0 C dX11_move_28 (by decide) ?_
  refine v_iastore (5 * yy + 1) C (hs.1 88 _ rfl) (at_e (idx5r yy 1) (by omega) (by decide)) dX11_move_29 ?_
  refine v_iinc 2 C dX11_move_30 rfl (by decide) (Nat.le_of_ble_eq_true rfl) rfl ?_
  refine v_goto 14 C dX11_move_33 (by decide) ?_
  refine v_iload_n C dX11_move_14 rfl ?_
  refine v_iconst 5 C dX11_move_15 (by decide) ?_
  refine v_icmp_ge 36 C dX11_move_16 (by decide) (fun h16 => absurd h16 (by decide)) (fun _ => ?_)
  refine v_aload_n C dX11_move_19 rfl ?_
  refine v_getR 88 C fl_RX11_134 rfl (hs.1 47 _ rfl) (hs.2 47 55 88 rfl) dX11_move_20 ?_
  refine v_iconst 5 C dX11_move_23 (by decide) ?_
  refine v_iload_n C dX11_move_24 rfl ?_
  refine v_imul C dX11_move_25 ?_
  refine v_iload_n C dX11_move_26 rfl ?_
  refine v_iadd C dX11_move_27 ?_
  refine v_iconst 0 C dX11_move_28 (by decide) ?_
  refine v_iastore (5 * yy + 2) C (hs.1 88 _ rfl) (at_e (idx5r yy 2) (by omega) (by decide)) dX11_move_29 ?_
  refine v_iinc 3 C dX11_move_30 rfl (by decide) (Nat.le_of_ble_eq_true rfl) rfl ?_
  refine v_goto 14 C dX11_move_33 (by decide) ?_
  refine v_iload_n C dX11_move_14 rfl ?_
  refine v_iconst 5 C dX11_move_15 (by decide) ?_
  refine v_icmp_ge 36 C dX11_move_16 (by decide) (fun h16 => absurd h16 (by decide)) (fun _ => ?_)
  refine v_aload_n C dX11_move_19 rfl ?_
  refine v_getR 88 C fl_RX11_134 rfl (hs.1 47 _ rfl) (hs.2 47 55 88 rfl) dX11_move_20 ?_
  refine v_iconst 5 C dX11_move_23 (by decide) ?_
  refine v_iload_n C dX11_move_24 rfl ?_
  refine v_imul C dX11_move_25 ?_
  refine v_iload_n C dX11_move_26 rfl ?_
  refine v_iadd C dX11_move_27 ?_
  refine v_iconst 0 C dX11_move_28 (by decide) ?_
  refine v_iastore (5 * yy + 3) C (hs.1 88 _ rfl) (at_e (idx5r yy 3) (by omega) (by decide)) dX11_move_29 ?_
  refine v_iinc 4 C dX11_move_30 rfl (by decide) (Nat.le_of_ble_eq_true rfl) rfl ?_
  refine v_goto 14 C dX11_move_33 (by decide) ?_
  refine v_iload_n C dX11_move_14 rfl ?_
  refine v_iconst 5 C dX11_move_15 (by decide) ?_
  refine v_icmp_ge 36 C dX11_move_16 (by decide) (fun h16 => absurd h16 (by decide)) (fun _ => ?_)
  refine v_aload_n C dX11_move_19 rfl ?_
  refine v_getR 88 C fl_RX11_134 rfl (hs.1 47 _ rfl) (hs.2 47 55 88 rfl) dX11_move_20 ?_
  refine v_iconst 5 C dX11_move_23 (by decide) ?_
  refine v_iload_n C dX11_move_24 rfl ?_
  refine v_imul C dX11_move_25 ?_
  refine v_iload_n C dX11_move_26 rfl ?_
  refine v_iadd C dX11_move_27 ?_
  refine v_iconst 0 C dX11_move_28 (by decide) ?_
  refine v_iastore (5 * yy + 4) C (hs.1 88 _ rfl) (at_e (idx5r yy 4) (by omega) (by decide)) dX11_move_29 ?_
  refine v_iinc 5 C dX11_move_30 rfl (by decide) (Nat.le_of_ble_eq_true rfl) rfl ?_
  refine v_goto 14 C dX11_move_33 (by decide) ?_
  refine v_iload_n C dX11_move_14 rfl ?_
  refine v_iconst 5 C dX11_move_15 (by decide) ?_
  refine v_icmp_ge 36 C dX11_move_16 (by decide) (fun _ => ?_) (fun h16 => absurd h16 (by decide))
  refine v_iload_n C dX11_move_36 rfl ?_
  refine v_iconst 1 C dX11_move_37 (by decide) ?_
  refine v_isub C dX11_move_38 ?_
  refine v_istore_n C dX11_move_39 (Nat.le_of_ble_eq_true rfl) rfl ?_
  refine lp1 (yy + 1) yy (zrow yy I) (Nat.lt_succ_self yy) (Nat.le_refl yy) ?_
  refine v_aload_n C dX11_move_79 rfl ?_
  refine v_getI C fl_RX11_148 rfl (hs.1 47 _ rfl) dX11_move_80 ?_
  refine v_eqi (show _ = nI (ix (I 47 1)) by rw [planM_o _ _ _ _ (by decide)]; exact hsite.eq (by decide)) ?_
  refine v_istore_n C dX11_move_83 (Nat.le_of_ble_eq_true rfl) rfl ?_
  refine v_iconst 0 C dX11_move_84 (by decide) ?_
  refine v_istore_n C dX11_move_85 (Nat.le_of_ble_eq_true rfl) rfl ?_
  refine lp2 (yy + 1) yy 0 (ix (I 47 1)) _ (Nat.lt_succ_self yy) (by omega) hsite.lt (fun q s a b => ?_) ?_
  · have hr : Rows yy 0 (planM yy (zrow yy I)) := Rows.plan yy _ (fun y a b => absurd a (by omega))
    rw [hr q (Nat.zero_le q) a s b]
    exact frF_ex _
  refine v_aload_n C dX11_move_168 rfl ?_
  refine v_iload_n C dX11_move_169 rfl ?_
  refine v_putI C fl_RX11_241 rfl (hs.1 47 _ rfl) dX11_move_170 ?_
  refine v_aload_n C dX11_move_173 rfl ?_
  refine v_getR 88 C fl_RX11_134 rfl (hs.1 47 _ rfl) (hs.2 47 55 88 rfl) dX11_move_174 ?_
  refine v_aload_n C dX11_move_177 rfl ?_
  refine v_getI C fl_RX11_148 rfl (hs.1 47 _ rfl) dX11_move_178 ?_
  refine v_iaload (ix (I 47 1)) C (hs.1 88 _ rfl) (at_w (show _ = I 47 1 by rw [iu_k (by decide), mvM_o _ _ _ _ _ _ (by decide), planM_o _ _ _ _ (by decide)]; rfl) (at_e (hsite.eq (by decide)) (by have := hsite.lt; omega) (by decide))) dX11_move_181 ?_
  exact v_iret C dX11_move_182 ⟨rfl, rfl, rfl, rfl, rfl⟩

def moveRm (I : IM) (y : Int32) : Int32 := if wI y 1 10 = 0 then -1 else moveIm I (ix y) (ix (I 47 1)) 88 (ix (I 47 1))
def movIm (I : IM) (y : Int32) : IM := if wI y 1 10 = 0 then I else moveIm I (ix y) (ix (I 47 1))
set_option maxHeartbeats 4000000 in
set_option maxRecDepth 100000 in
theorem c_X11_moveF {lnc : Launch} {E : En} {sh : List Sh} {I : IM} {J : JM} {R : RM} {y : Int32} (hs : St sh R) (hw : wI y 1 10 = 0) : Ct lnc E yX11_move cX11_move 5 (some .int) 1 25 [.ref 47, .int y] sh I J R 0 0 (m_ret (some (.int (-1))) sh I J R) := by
  refine Ct.of (lv := [some (.ref 47), some (.int y), none, none, none]) (by decide) (Nat.le_of_ble_eq_true rfl) rfl (fun X hX C => ?_)
  refine v_iload_n C dX11_move_0 rfl ?_
  refine v_iconst 1 C dX11_move_1 (by decide) ?_
  refine v_bipush 10 C dX11_move_2 (by decide) ?_
  refine v_callSi C c_X11_in mt_X11_in lk_RX11_140 rfl rfl rfl rfl rfl dX11_move_4 ?_
  refine v_if_ne 12 C dX11_move_7 (by decide) (fun h7 => False.elim (h7 hw)) (fun h7 => ?_)
  refine v_iconst (-1) C dX11_move_10 (by decide) ?_
  exact v_iret C dX11_move_11 ⟨rfl, rfl, rfl, rfl, rfl⟩

theorem c_X11_move {lnc : Launch} {E : En} {sh : List Sh} {I : IM} {J : JM} {R : RM} {y : Int32} (hs : St sh R) (hsite : At (I 47 1) 5 (ix (I 47 1))) : Ct lnc E yX11_move cX11_move 5 (some .int) 1 25 [.ref 47, .int y] sh I J R 0 0 (m_ret (some (.int (moveRm I y))) sh (movIm I y) J R) := by
  by_cases h : wI y 1 10 = 0
  · rw [moveRm, movIm, if_pos h, if_pos h]
    exact c_X11_moveF hs h
  · rw [moveRm, movIm, if_neg h, if_neg h]
    have hy := yrs h
    have hc := c_X11_moveN (lnc := lnc) (E := E) (I := I) (J := J) (yy := ix y) hs hy.2.1 hy.2.2 hsite
    rw [← hy.1] at hc
    exact hc
