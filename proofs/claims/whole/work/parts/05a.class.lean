set_option maxHeartbeats 4000000 in
set_option maxRecDepth 100000 in
theorem c_X2_grant {lnc : Launch} {E : En} {sh : List Sh} {I : IM} {J : JM} {R : RM} {j : Nat} {s m : Int32} (hs : St sh R) (hj : At s 5 j) : Ct lnc E yX2_grant cX2_grant 3 (some .int) 2 45 [.ref 1, .int s, .int m] sh I J R 0 0 (m_ret (some (.int (I 2 j))) sh (iu I 2 j m) J R) := by
  refine Ct.of (lv := [some (.ref 1), some (.int s), some (.int m)]) (by decide) (Nat.le_of_ble_eq_true rfl) rfl (fun X hX C => ?_)
  refine v_aload_n C dX2_grant_0 rfl ?_
  refine v_getR 2 C fl_RX2_9 rfl (hs.1 1 _ rfl) (hs.2 1 0 2 rfl) dX2_grant_1 ?_
  refine v_iload_n C dX2_grant_4 rfl ?_
  refine v_iload_n C dX2_grant_5 rfl ?_
  refine v_callNSi C (c_X10_exchange (hs.1 2 _ rfl) hj (by decide)) mt_X10_exchange lk_RX2_18 rfl rfl rfl rfl rfl dX2_grant_6 ?_
  exact v_iret C dX2_grant_9 ⟨rfl, rfl, rfl, rfl, rfl⟩

set_option maxHeartbeats 4000000 in
set_option maxRecDepth 100000 in
theorem c_X2_fell {lnc : Launch} {E : En} {sh : List Sh} {I : IM} {J : JM} {R : RM} {m : Int32} (hs : St sh R) (hsite : At (I 1 2) 5 (ix (I 1 2))) : Ct lnc E yX2_fell cX2_fell 4 (some .int) 1 21 [.ref 1, .int m] sh I J R 0 0 (m_ret (some (.int (fellW m (I 2 (ix (I 1 2))) (I 3 (ix (I 1 2))) (I 1 3)))) sh (fellI I m) J R) := by
  refine Ct.of (lv := [some (.ref 1), some (.int m), none, none]) (by decide) (Nat.le_of_ble_eq_true rfl) rfl (fun X hX C => ?_)
  refine v_iconst 0 C dX2_fell_0 (by decide) ?_
  refine v_aload_n C dX2_fell_1 rfl ?_
  refine v_getR 2 C fl_RX2_9 rfl (hs.1 1 _ rfl) (hs.2 1 0 2 rfl) dX2_fell_2 ?_
  refine v_aload_n C dX2_fell_5 rfl ?_
  refine v_getI C fl_RX2_22 rfl (hs.1 1 _ rfl) dX2_fell_6 ?_
  refine v_iaload (ix (I 1 2)) C (hs.1 2 _ rfl) hsite dX2_fell_9 ?_
  refine v_aload_n C dX2_fell_10 rfl ?_
  refine v_getR 3 C fl_RX2_15 rfl (hs.1 1 _ rfl) (hs.2 1 1 3 rfl) dX2_fell_11 ?_
  refine v_aload_n C dX2_fell_14 rfl ?_
  refine v_getI C fl_RX2_22 rfl (hs.1 1 _ rfl) dX2_fell_15 ?_
  refine v_iaload (ix (I 1 2)) C (hs.1 3 _ rfl) hsite dX2_fell_18 ?_
  refine v_isub C dX2_fell_19 ?_
  refine v_mmax C lk_RX2_26 math_max_st ini_Math0 math_max_code rfl (Nat.le_of_ble_eq_true rfl) (Nat.le_of_ble_eq_true rfl) (Nat.le_of_ble_eq_true rfl) (Nat.le_of_ble_eq_true rfl) dX2_fell_20 ?_
  refine v_istore_n C dX2_fell_23 (Nat.le_of_ble_eq_true rfl) rfl ?_
  refine v_iload_n C dX2_fell_24 rfl ?_
  refine v_iload_n C dX2_fell_25 rfl ?_
  refine v_sipush 20000 C dX2_fell_26 (by decide) ?_
  refine v_aload_n C dX2_fell_29 rfl ?_
  refine v_getI C fl_RX2_32 rfl (hs.1 1 _ rfl) dX2_fell_30 ?_
  refine v_isub C dX2_fell_33 ?_
  refine v_mmin C lk_RX2_35 math_min_st ini_Math0 math_min_code rfl (Nat.le_of_ble_eq_true rfl) (Nat.le_of_ble_eq_true rfl) (Nat.le_of_ble_eq_true rfl) (Nat.le_of_ble_eq_true rfl) dX2_fell_34 ?_
  refine v_mmin C lk_RX2_35 math_min_st ini_Math0 math_min_code rfl (Nat.le_of_ble_eq_true rfl) (Nat.le_of_ble_eq_true rfl) (Nat.le_of_ble_eq_true rfl) (Nat.le_of_ble_eq_true rfl) dX2_fell_37 ?_
  refine v_istore_n C dX2_fell_40 (Nat.le_of_ble_eq_true rfl) rfl ?_
  refine v_aload_n C dX2_fell_41 rfl ?_
  refine v_getR 3 C fl_RX2_15 rfl (hs.1 1 _ rfl) (hs.2 1 1 3 rfl) dX2_fell_42 ?_
  refine v_aload_n C dX2_fell_45 rfl ?_
  refine v_getI C fl_RX2_22 rfl (hs.1 1 _ rfl) dX2_fell_46 ?_
  refine v_dup2ir C dX2_fell_49 ?_
  refine v_iaload (ix (I 1 2)) C (hs.1 3 _ rfl) hsite dX2_fell_50 ?_
  refine v_iload_n C dX2_fell_51 rfl ?_
  refine v_iadd C dX2_fell_52 ?_
  refine v_iastore (ix (I 1 2)) C (hs.1 3 _ rfl) hsite dX2_fell_53 ?_
  refine v_aload_n C dX2_fell_54 rfl ?_
  refine v_dupr C dX2_fell_55 ?_
  refine v_getI C fl_RX2_32 rfl (hs.1 1 _ rfl) dX2_fell_56 ?_
  refine v_iload_n C dX2_fell_59 rfl ?_
  refine v_iadd C dX2_fell_60 ?_
  refine v_putI C fl_RX2_32 rfl (hs.1 1 _ rfl) dX2_fell_61 ?_
  refine v_iload_n C dX2_fell_64 rfl ?_
  exact v_iret C dX2_fell_65 ⟨rfl, rfl, rfl, rfl, rfl⟩

set_option maxHeartbeats 4000000 in
set_option maxRecDepth 100000 in
theorem c_X2_takeFromStack {lnc : Launch} {E : En} {sh : List Sh} {I : IM} {J : JM} {R : RM} {w : Int32} (hs : St sh R) : Ct lnc E yX2_takeFromStack cX2_takeFromStack 3 (some .int) 1 21 [.ref 1, .int w] sh I J R 0 0 (m_ret (some (.int (mn w (I 1 3)))) sh (iu I 1 3 (I 1 3 - mn w (I 1 3))) J R) := by
  refine Ct.of (lv := [some (.ref 1), some (.int w), none]) (by decide) (Nat.le_of_ble_eq_true rfl) rfl (fun X hX C => ?_)
  refine v_iload_n C dX2_takeFromStack_0 rfl ?_
  refine v_aload_n C dX2_takeFromStack_1 rfl ?_
  refine v_getI C fl_RX2_32 rfl (hs.1 1 _ rfl) dX2_takeFromStack_2 ?_
  refine v_mmin C lk_RX2_35 math_min_st ini_Math0 math_min_code rfl (Nat.le_of_ble_eq_true rfl) (Nat.le_of_ble_eq_true rfl) (Nat.le_of_ble_eq_true rfl) (Nat.le_of_ble_eq_true rfl) dX2_takeFromStack_5 ?_
  refine v_istore_n C dX2_takeFromStack_8 (Nat.le_of_ble_eq_true rfl) rfl ?_
  refine v_aload_n C dX2_takeFromStack_9 rfl ?_
  refine v_dupr C dX2_takeFromStack_10 ?_
  refine v_getI C fl_RX2_32 rfl (hs.1 1 _ rfl) dX2_takeFromStack_11 ?_
  refine v_iload_n C dX2_takeFromStack_14 rfl ?_
  refine v_isub C dX2_takeFromStack_15 ?_
  refine v_putI C fl_RX2_32 rfl (hs.1 1 _ rfl) dX2_takeFromStack_16 ?_
  refine v_iload_n C dX2_takeFromStack_19 rfl ?_
  exact v_iret C dX2_takeFromStack_20 ⟨rfl, rfl, rfl, rfl, rfl⟩

set_option maxHeartbeats 4000000 in
set_option maxRecDepth 100000 in
theorem c_X2_leaveFor {lnc : Launch} {E : En} {sh : List Sh} {I : IM} {J : JM} {R : RM} {s : Int32} (hs : St sh R) : Ct lnc E yX2_leaveFor cX2_leaveFor 2 none 0 0 [.ref 1, .int s] sh I J R 0 0 (m_ret none sh (iu (iu I 1 2 s) 1 3 0) J R) := by
  refine Ct.of (lv := [some (.ref 1), some (.int s)]) (by decide) (Nat.le_of_ble_eq_true rfl) rfl (fun X hX C => ?_)
  refine v_aload_n C dX2_leaveFor_0 rfl ?_
  refine v_iload_n C dX2_leaveFor_1 rfl ?_
  refine v_putI C fl_RX2_22 rfl (hs.1 1 _ rfl) dX2_leaveFor_2 ?_
  refine v_aload_n C dX2_leaveFor_5 rfl ?_
  refine v_iconst 0 C dX2_leaveFor_6 (by decide) ?_
  refine v_putI C fl_RX2_32 rfl (hs.1 1 _ rfl) dX2_leaveFor_7 ?_
  exact v_vret C dX2_leaveFor_10 ⟨rfl, rfl, rfl, rfl, rfl⟩

set_option maxHeartbeats 4000000 in
set_option maxRecDepth 100000 in
theorem c_X3_addSpell {lnc : Launch} {E : En} {sh : List Sh} {I : IM} {J : JM} {R : RM} {f t d : Int32} (hs : St sh R) (hn : I 4 3 < 20 → At (I 4 3) 20 (ix (I 4 3))) : Ct lnc E yX3_addSpell cX3_addSpell 4 (some .int) 0 0 [.ref 4, .int f, .int t, .int d] sh I J R 0 0 (m_ret (some (.int (if I 4 3 < 20 then I 4 3 + 1 else -1))) sh (if I 4 3 < 20 then spellI I f t d else I) J R) := by
  refine Ct.of (lv := [some (.ref 4), some (.int f), some (.int t), some (.int d)]) (by decide) (Nat.le_of_ble_eq_true rfl) rfl (fun X hX C => ?_)
  refine v_aload_n C dX3_addSpell_0 rfl ?_
  refine v_getI C fl_RX3_21 rfl (hs.1 4 _ rfl) dX3_addSpell_1 ?_
  refine v_bipush 20 C dX3_addSpell_4 (by decide) ?_
  refine v_icmp_lt 11 C dX3_addSpell_6 (by decide) (fun h6 => ?_) (fun h6 => ?_)
  · refine v_aload_n C dX3_addSpell_11 rfl ?_
    refine v_getR 5 C fl_RX3_11 rfl (hs.1 4 _ rfl) (hs.2 4 0 5 rfl) dX3_addSpell_12 ?_
    refine v_aload_n C dX3_addSpell_15 rfl ?_
    refine v_getI C fl_RX3_21 rfl (hs.1 4 _ rfl) dX3_addSpell_16 ?_
    refine v_iload_n C dX3_addSpell_19 rfl ?_
    have hn := hn h6
    refine v_iastore (ix (I 4 3)) C (hs.1 5 _ rfl) hn dX3_addSpell_20 ?_
    refine v_aload_n C dX3_addSpell_21 rfl ?_
    refine v_getR 6 C fl_RX3_15 rfl (hs.1 4 _ rfl) (hs.2 4 1 6 rfl) dX3_addSpell_22 ?_
    refine v_aload_n C dX3_addSpell_25 rfl ?_
    refine v_getI C fl_RX3_21 rfl (hs.1 4 _ rfl) dX3_addSpell_26 ?_
    refine v_iload_n C dX3_addSpell_29 rfl ?_
    refine v_iastore (ix (I 4 3)) C (hs.1 6 _ rfl) (by simpa [iu_ap] using hn) dX3_addSpell_30 ?_
    refine v_aload_n C dX3_addSpell_31 rfl ?_
    refine v_getR 7 C fl_RX3_18 rfl (hs.1 4 _ rfl) (hs.2 4 2 7 rfl) dX3_addSpell_32 ?_
    refine v_aload_n C dX3_addSpell_35 rfl ?_
    refine v_getI C fl_RX3_21 rfl (hs.1 4 _ rfl) dX3_addSpell_36 ?_
    refine v_iload_n C dX3_addSpell_39 rfl ?_
    refine v_iastore (ix (I 4 3)) C (hs.1 7 _ rfl) (by simpa [iu_ap] using hn) dX3_addSpell_40 ?_
    refine v_aload_n C dX3_addSpell_41 rfl ?_
    refine v_dupr C dX3_addSpell_42 ?_
    refine v_getI C fl_RX3_21 rfl (hs.1 4 _ rfl) dX3_addSpell_43 ?_
    refine v_iconst 1 C dX3_addSpell_46 (by decide) ?_
    refine v_iadd C dX3_addSpell_47 ?_
    refine v_putI C fl_RX3_21 rfl (hs.1 4 _ rfl) dX3_addSpell_48 ?_
    refine v_aload_n C dX3_addSpell_51 rfl ?_
    refine v_getI C fl_RX3_21 rfl (hs.1 4 _ rfl) dX3_addSpell_52 ?_
    exact v_iret C dX3_addSpell_55 ⟨by simp [iu_ap, *], rfl, by simp [spellI, iu_ap, *], rfl, rfl⟩
  · refine v_iconst (-1) C dX3_addSpell_9 (by decide) ?_
    exact v_iret C dX3_addSpell_10 ⟨by simp [iu_ap, *], rfl, by simp [spellI, iu_ap, *], rfl, rfl⟩

set_option maxHeartbeats 4000000 in
set_option maxRecDepth 100000 in
theorem c_X10_right {lnc : Launch} {E : En} {sh : List Sh} {I : IM} {J : JM} {R : RM} {s m : Int32} (hs : St sh R) : Ct lnc E yX10_right cX10_right 3 (some .int) 3 67 [.ref 0, .int s, .int m] sh I J R 0 0 (m_ret (some (.int (rightR I 2 s m))) sh (rightI I 2 s m) J R) := by
  refine Ct.of (lv := [some (.ref 0), some (.int s), some (.int m)]) (by decide) (Nat.le_of_ble_eq_true rfl) rfl (fun X hX C => ?_)
  refine v_iload_n C dX10_right_0 rfl ?_
  refine v_iconst 0 C dX10_right_1 (by decide) ?_
  refine v_iconst 4 C dX10_right_2 (by decide) ?_
  refine v_callSi C c_X10_within mt_X10_within lk_RX10_88 rfl rfl rfl rfl rfl dX10_right_3 ?_
  refine v_if_eq 20 C dX10_right_6 (by decide) (fun h6 => ?_) (fun h6 => ?_)
  · refine v_iconst (-1) C dX10_right_20 (by decide) ?_
    exact v_iret C dX10_right_21 ⟨by simp [rightR, rightI, *], rfl, by simp [rightR, rightI, *], rfl, rfl⟩
  · refine v_iload_n C dX10_right_9 rfl ?_
    refine v_iconst 0 C dX10_right_10 (by decide) ?_
    refine v_sipush 10000 C dX10_right_11 (by decide) ?_
    refine v_callSi C c_X10_within mt_X10_within lk_RX10_88 rfl rfl rfl rfl rfl dX10_right_14 ?_
    refine v_if_ne 22 C dX10_right_17 (by decide) (fun h17 => ?_) (fun h17 => ?_)
    · refine v_aload_n C dX10_right_22 rfl ?_
      refine v_getR 1 C fl_RX10_10 rfl (hs.1 0 _ rfl) (hs.2 0 0 1 rfl) dX10_right_23 ?_
      refine v_iload_n C dX10_right_26 rfl ?_
      refine v_iload_n C dX10_right_27 rfl ?_
      refine v_callVi C (c_X2_grant hs (wI_at h6 (by decide))) mt_X2_grant lk_RX10_92 rfl rfl (hs.1 1 _ rfl) rfl rfl rfl rfl rfl dX10_right_28 ?_
      exact v_iret C dX10_right_31 ⟨by simp [rightR, rightI, *], rfl, by simp [rightR, rightI, *], rfl, rfl⟩
    · refine v_iconst (-1) C dX10_right_20 (by decide) ?_
      exact v_iret C dX10_right_21 ⟨by simp [rightR, rightI, *], rfl, by simp [rightR, rightI, *], rfl, rfl⟩

set_option maxHeartbeats 4000000 in
set_option maxRecDepth 100000 in
theorem c_X10_cut {lnc : Launch} {E : En} {sh : List Sh} {I : IM} {J : JM} {R : RM} {m : Int32} (hs : St sh R) (hsite : At (I 1 2) 5 (ix (I 1 2))) : Ct lnc E yX10_cut cX10_cut 2 (some .int) 2 44 [.ref 0, .int m] sh I J R 0 0 (m_ret (some (.int (cutR I m))) sh (cutI I m) J R) := by
  refine Ct.of (lv := [some (.ref 0), some (.int m)]) (by decide) (Nat.le_of_ble_eq_true rfl) rfl (fun X hX C => ?_)
  refine v_iload_n C dX10_cut_0 rfl ?_
  refine v_iconst 1 C dX10_cut_1 (by decide) ?_
  refine v_sipush 10000 C dX10_cut_2 (by decide) ?_
  refine v_callSi C c_X10_within mt_X10_within lk_RX10_88 rfl rfl rfl rfl rfl dX10_cut_5 ?_
  refine v_if_eq 18 C dX10_cut_8 (by decide) (fun h8 => ?_) (fun h8 => ?_)
  · refine v_iconst (-1) C dX10_cut_18 (by decide) ?_
    exact v_iret C dX10_cut_19 ⟨by simp [cutR, cutI, *], rfl, by simp [cutR, cutI, *], rfl, rfl⟩
  · refine v_aload_n C dX10_cut_11 rfl ?_
    refine v_callVi C (c_X10_atEnd (hs.1 0 _ rfl)) mt_X10_atEnd lk_RX10_96 rfl rfl (hs.1 0 _ rfl) rfl rfl rfl rfl rfl dX10_cut_12 ?_
    refine v_if_eq 20 C dX10_cut_15 (by decide) (fun h15 => ?_) (fun h15 => ?_)
    · refine v_aload_n C dX10_cut_20 rfl ?_
      refine v_getR 1 C fl_RX10_10 rfl (hs.1 0 _ rfl) (hs.2 0 0 1 rfl) dX10_cut_21 ?_
      refine v_iload_n C dX10_cut_24 rfl ?_
      refine v_callVi C (c_X2_fell hs hsite) mt_X2_fell lk_RX10_100 rfl rfl (hs.1 1 _ rfl) rfl rfl rfl rfl rfl dX10_cut_25 ?_
      exact v_iret C dX10_cut_28 ⟨by simp [cutR, cutI, *], rfl, by simp [cutR, cutI, *], rfl, rfl⟩
    · refine v_iconst (-1) C dX10_cut_18 (by decide) ?_
      exact v_iret C dX10_cut_19 ⟨by simp [cutR, cutI, *], rfl, by simp [cutR, cutI, *], rfl, rfl⟩

set_option maxHeartbeats 4000000 in
set_option maxRecDepth 100000 in
theorem c_X10_rate {lnc : Launch} {E : En} {sh : List Sh} {I : IM} {J : JM} {R : RM} {r : Int32} (hs : St sh R) : Ct lnc E yX10_rate cX10_rate 3 (some .int) 1 22 [.ref 0, .int r] sh I J R 0 0 (m_ret (some (.int (rateR I 4 4 r))) sh (rateI I 4 4 r) J R) := by
  refine Ct.of (lv := [some (.ref 0), some (.int r), none]) (by decide) (Nat.le_of_ble_eq_true rfl) rfl (fun X hX C => ?_)
  refine v_iload_n C dX10_rate_0 rfl ?_
  refine v_iconst 0 C dX10_rate_1 (by decide) ?_
  refine v_bipush 20 C dX10_rate_2 (by decide) ?_
  refine v_callSi C c_X10_within mt_X10_within lk_RX10_88 rfl rfl rfl rfl rfl dX10_rate_4 ?_
  refine v_if_ne 12 C dX10_rate_7 (by decide) (fun h7 => ?_) (fun h7 => ?_)
  · refine v_aload_n C dX10_rate_12 rfl ?_
    refine v_getR 4 C fl_RX10_19 rfl (hs.1 0 _ rfl) (hs.2 0 1 4 rfl) dX10_rate_13 ?_
    refine v_getI C fl_RX10_104 rfl (hs.1 4 _ rfl) dX10_rate_16 ?_
    refine v_istore_n C dX10_rate_19 (Nat.le_of_ble_eq_true rfl) rfl ?_
    refine v_aload_n C dX10_rate_20 rfl ?_
    refine v_getR 4 C fl_RX10_19 rfl (hs.1 0 _ rfl) (hs.2 0 1 4 rfl) dX10_rate_21 ?_
    refine v_iload_n C dX10_rate_24 rfl ?_
    refine v_putI C fl_RX10_104 rfl (hs.1 4 _ rfl) dX10_rate_25 ?_
    refine v_iload_n C dX10_rate_28 rfl ?_
    exact v_iret C dX10_rate_29 ⟨by simp [rateR, rateI, *], rfl, by simp [rateR, rateI, *], rfl, rfl⟩
  · refine v_iconst (-1) C dX10_rate_10 (by decide) ?_
    exact v_iret C dX10_rate_11 ⟨by simp [rateR, rateI, *], rfl, by simp [rateR, rateI, *], rfl, rfl⟩

set_option maxHeartbeats 4000000 in
set_option maxRecDepth 100000 in
theorem c_X10_cold {lnc : Launch} {E : En} {sh : List Sh} {I : IM} {J : JM} {R : RM} {f t d : Int32} (hs : St sh R) (hn : I 4 3 < 20 → At (I 4 3) 20 (ix (I 4 3))) : Ct lnc E yX10_cold cX10_cold 4 (some .int) 1 23 [.ref 0, .int f, .int t, .int d] sh I J R 0 0 (m_ret (some (.int (coldR I f t d))) sh (coldI I f t d) J R) := by
  refine Ct.of (lv := [some (.ref 0), some (.int f), some (.int t), some (.int d)]) (by decide) (Nat.le_of_ble_eq_true rfl) rfl (fun X hX C => ?_)
  refine v_iload_n C dX10_cold_0 rfl ?_
  refine v_iconst 0 C dX10_cold_1 (by decide) ?_
  refine v_sipush 4999 C dX10_cold_2 (by decide) ?_
  refine v_callSi C c_X10_within mt_X10_within lk_RX10_88 rfl rfl rfl rfl rfl dX10_cold_5 ?_
  refine v_if_eq 32 C dX10_cold_8 (by decide) (fun h8 => ?_) (fun h8 => ?_)
  · refine v_iconst (-1) C dX10_cold_32 (by decide) ?_
    exact v_iret C dX10_cold_33 ⟨by simp [coldR, coldI, coldOk, *], rfl, by simp [coldR, coldI, coldOk, *], rfl, rfl⟩
  · refine v_iload_n C dX10_cold_11 rfl ?_
    refine v_iload_n C dX10_cold_12 rfl ?_
    refine v_sipush 4999 C dX10_cold_13 (by decide) ?_
    refine v_callSi C c_X10_within mt_X10_within lk_RX10_88 rfl rfl rfl rfl rfl dX10_cold_16 ?_
    refine v_if_eq 32 C dX10_cold_19 (by decide) (fun h19 => ?_) (fun h19 => ?_)
    · refine v_iconst (-1) C dX10_cold_32 (by decide) ?_
      exact v_iret C dX10_cold_33 ⟨by simp [coldR, coldI, coldOk, *], rfl, by simp [coldR, coldI, coldOk, *], rfl, rfl⟩
    · refine v_iload_n C dX10_cold_22 rfl ?_
      refine v_iconst 1 C dX10_cold_23 (by decide) ?_
      refine v_bipush 100 C dX10_cold_24 (by decide) ?_
      refine v_callSi C c_X10_within mt_X10_within lk_RX10_88 rfl rfl rfl rfl rfl dX10_cold_26 ?_
      refine v_if_ne 34 C dX10_cold_29 (by decide) (fun h29 => ?_) (fun h29 => ?_)
      · refine v_aload_n C dX10_cold_34 rfl ?_
        refine v_getR 4 C fl_RX10_19 rfl (hs.1 0 _ rfl) (hs.2 0 1 4 rfl) dX10_cold_35 ?_
        refine v_iload_n C dX10_cold_38 rfl ?_
        refine v_iload_n C dX10_cold_39 rfl ?_
        refine v_iload_n C dX10_cold_40 rfl ?_
        refine v_callVi C (c_X3_addSpell hs hn) mt_X3_addSpell lk_RX10_108 rfl rfl (hs.1 4 _ rfl) rfl rfl rfl rfl rfl dX10_cold_41 ?_
        exact v_iret C dX10_cold_44 ⟨by simp [coldR, coldI, coldOk, *], rfl, by simp [coldR, coldI, coldOk, *], rfl, rfl⟩
      · refine v_iconst (-1) C dX10_cold_32 (by decide) ?_
        exact v_iret C dX10_cold_33 ⟨by simp [coldR, coldI, coldOk, *], rfl, by simp [coldR, coldI, coldOk, *], rfl, rfl⟩

set_option maxHeartbeats 4000000 in
set_option maxRecDepth 100000 in
theorem c_X10_buy {lnc : Launch} {E : En} {sh : List Sh} {I : IM} {J : JM} {R : RM} {b : Int32} (hs : St sh R) : Ct lnc E yX10_buy cX10_buy 2 (some .int) 1 22 [.ref 0, .int b] sh I J R 0 0 (m_ret (some (.int (buyR I 0 12 b))) sh (buyI I 0 12 b) J R) := by
  refine Ct.of (lv := [some (.ref 0), some (.int b)]) (by decide) (Nat.le_of_ble_eq_true rfl) rfl (fun X hX C => ?_)
  refine v_iload_n C dX10_buy_0 rfl ?_
  refine v_iconst 1 C dX10_buy_1 (by decide) ?_
  refine v_sipush 5000 C dX10_buy_2 (by decide) ?_
  refine v_callSi C c_X10_within mt_X10_within lk_RX10_88 rfl rfl rfl rfl rfl dX10_buy_5 ?_
  refine v_if_eq 22 C dX10_buy_8 (by decide) (fun h8 => ?_) (fun h8 => ?_)
  · refine v_iconst (-1) C dX10_buy_22 (by decide) ?_
    exact v_iret C dX10_buy_23 ⟨by simp [buyR, buyI, iu_ap, Int32.not_le.mp, *], rfl, by simp [buyR, buyI, iu_ap, Int32.not_le.mp, *], rfl, rfl⟩
  · refine v_aload_n C dX10_buy_11 rfl ?_
    refine v_getI C fl_RX10_153 rfl (hs.1 0 _ rfl) dX10_buy_12 ?_
    refine v_iload_n C dX10_buy_15 rfl ?_
    refine v_iadd C dX10_buy_16 ?_
    refine v_ldc 100000 C ct_RX10_168 dX10_buy_17 ?_
    refine v_icmp_le 24 C dX10_buy_19 (by decide) (fun h19 => ?_) (fun h19 => ?_)
    · refine v_aload_n C dX10_buy_24 rfl ?_
      refine v_dupr C dX10_buy_25 ?_
      refine v_getI C fl_RX10_153 rfl (hs.1 0 _ rfl) dX10_buy_26 ?_
      refine v_iload_n C dX10_buy_29 rfl ?_
      refine v_iadd C dX10_buy_30 ?_
      refine v_putI C fl_RX10_153 rfl (hs.1 0 _ rfl) dX10_buy_31 ?_
      refine v_aload_n C dX10_buy_34 rfl ?_
      refine v_getI C fl_RX10_153 rfl (hs.1 0 _ rfl) dX10_buy_35 ?_
      exact v_iret C dX10_buy_38 ⟨by simp [buyR, buyI, iu_ap, Int32.not_le.mp, *], rfl, by simp [buyR, buyI, iu_ap, Int32.not_le.mp, *], rfl, rfl⟩
    · refine v_iconst (-1) C dX10_buy_22 (by decide) ?_
      exact v_iret C dX10_buy_23 ⟨by simp [buyR, buyI, iu_ap, Int32.not_le.mp, *], rfl, by simp [buyR, buyI, iu_ap, Int32.not_le.mp, *], rfl, rfl⟩

set_option maxHeartbeats 4000000 in
set_option maxRecDepth 100000 in
theorem c_X10_drop {lnc : Launch} {E : En} {sh : List Sh} {I : IM} {J : JM} {R : RM} {p : Int32} (hs : St sh R) : Ct lnc E yX10_drop cX10_drop 3 (some .int) 1 22 [.ref 0, .int p] sh I J R 0 0 (m_ret (some (.int (dropR I p))) sh (dropI I p) J R) := by
  refine Ct.of (lv := [some (.ref 0), some (.int p), none]) (by decide) (Nat.le_of_ble_eq_true rfl) rfl (fun X hX C => ?_)
  refine v_iload_n C dX10_drop_0 rfl ?_
  refine v_iconst 0 C dX10_drop_1 (by decide) ?_
  refine v_iconst 5 C dX10_drop_2 (by decide) ?_
  refine v_callSi C c_X10_within mt_X10_within lk_RX10_88 rfl rfl rfl rfl rfl dX10_drop_3 ?_
  refine v_if_eq 21 C dX10_drop_6 (by decide) (fun h6 => ?_) (fun h6 => ?_)
  · refine v_iconst (-1) C dX10_drop_21 (by decide) ?_
    exact v_iret C dX10_drop_22 ⟨by simp [dropR, *], rfl, by simp [dropI, clearI, iu_ap, *], rfl, rfl⟩
  · refine v_aload_n C dX10_drop_9 rfl ?_
    refine v_getR 17 C fl_RX10_39 rfl (hs.1 0 _ rfl) (hs.2 0 4 17 rfl) dX10_drop_10 ?_
    refine v_iload_n C dX10_drop_13 rfl ?_
    refine v_aaload (ix p) C (hs.1 17 _ rfl) (cn := RX7) ⟨rfl, by decide, by decide⟩ (wI_at h6 (by decide)) (hs.pot (wI_at h6 (by decide) : At p 6 _).lt).2 dX10_drop_14 ?_
    refine v_callVi C (c_X7_isEmpty (hs.pot (wI_at h6 (by decide) : At p 6 _).lt).1) mt_X7_isEmpty lk_RX10_150 rfl rfl (hs.pot (wI_at h6 (by decide) : At p 6 _).lt).1 rfl rfl rfl rfl rfl dX10_drop_15 ?_
    refine v_if_eq 23 C dX10_drop_18 (by decide) (fun h18 => ?_) (fun h18 => ?_)
    · refine v_aload_n C dX10_drop_23 rfl ?_
      refine v_getR 17 C fl_RX10_39 rfl (hs.1 0 _ rfl) (hs.2 0 4 17 rfl) dX10_drop_24 ?_
      refine v_iload_n C dX10_drop_27 rfl ?_
      refine v_aaload (ix p) C (hs.1 17 _ rfl) (cn := RX7) ⟨rfl, by decide, by decide⟩ (wI_at h6 (by decide)) (hs.pot (wI_at h6 (by decide) : At p 6 _).lt).2 dX10_drop_28 ?_
      refine v_getI C fl_RX10_169 rfl (hs.pot (wI_at h6 (by decide) : At p 6 _).lt).1 dX10_drop_29 ?_
      refine v_istore_n C dX10_drop_32 (Nat.le_of_ble_eq_true rfl) rfl ?_
      refine v_aload_n C dX10_drop_33 rfl ?_
      refine v_getR 17 C fl_RX10_39 rfl (hs.1 0 _ rfl) (hs.2 0 4 17 rfl) dX10_drop_34 ?_
      refine v_iload_n C dX10_drop_37 rfl ?_
      refine v_aaload (ix p) C (hs.1 17 _ rfl) (cn := RX7) ⟨rfl, by decide, by decide⟩ (wI_at h6 (by decide)) (hs.pot (wI_at h6 (by decide) : At p 6 _).lt).2 dX10_drop_38 ?_
      refine v_callVv C (c_X7_clear (hs.pot (wI_at h6 (by decide) : At p 6 _).lt).1) mt_X7_clear lk_RX10_172 rfl rfl (hs.pot (wI_at h6 (by decide) : At p 6 _).lt).1 rfl rfl rfl rfl rfl dX10_drop_39 ?_
      refine v_aload_n C dX10_drop_42 rfl ?_
      refine v_dupr C dX10_drop_43 ?_
      refine v_getI C fl_RX10_153 rfl (hs.1 0 _ rfl) dX10_drop_44 ?_
      refine v_iload_n C dX10_drop_47 rfl ?_
      refine v_iadd C dX10_drop_48 ?_
      refine v_putI C fl_RX10_153 rfl (hs.1 0 _ rfl) dX10_drop_49 ?_
      refine v_iload_n C dX10_drop_52 rfl ?_
      exact v_iret C dX10_drop_53 ⟨by simp [dropR, *], rfl, by simp [dropI, clearI, iu_ap, *], rfl, rfl⟩
    · refine v_iconst (-1) C dX10_drop_21 (by decide) ?_
      exact v_iret C dX10_drop_22 ⟨by simp [dropR, *], rfl, by simp [dropI, clearI, iu_ap, *], rfl, rfl⟩

set_option maxHeartbeats 4000000 in
set_option maxRecDepth 100000 in
theorem c_X10_kind {lnc : Launch} {E : En} {sh : List Sh} {I : IM} {J : JM} {R : RM} {k w m p c b h : Int32} (hs : St sh R) : Ct lnc E yX10_kind cX10_kind 10 (some .boolean) 1 22 [.ref 0, .int k, .int w, .int m, .int p, .int c, .int b, .int h] sh I J R 0 0 (m_ret (some (.int (kindR k w m p c b h))) sh (kindI I k w m p c b h) J R) := by
  refine Ct.of (lv := [some (.ref 0), some (.int k), some (.int w), some (.int m), some (.int p), some (.int c), some (.int b), some (.int h), none, none]) (by decide) (Nat.le_of_ble_eq_true rfl) rfl (fun X hX C => ?_)
  refine v_iload_n C dX10_kind_0 rfl ?_
  refine v_iconst 0 C dX10_kind_1 (by decide) ?_
  refine v_iconst 4 C dX10_kind_2 (by decide) ?_
  refine v_callSi C c_X10_within mt_X10_within lk_RX10_88 rfl rfl rfl rfl rfl dX10_kind_3 ?_
  refine v_if_eq 83 C dX10_kind_6 (by decide) (fun h6 => ?_) (fun h6 => ?_)
  · refine v_iconst 0 C dX10_kind_83 (by decide) ?_
    refine v_istore C dX10_kind_84 (Nat.le_of_ble_eq_true rfl) rfl ?_
    refine v_iload C dX10_kind_86 rfl ?_
    refine v_if_ne 93 C dX10_kind_88 (by decide) (fun h88 => False.elim (absurd h88 (by decide))) (fun h88 => ?_)
    refine v_iconst 0 C dX10_kind_91 (by decide) ?_
    exact v_zret C (Or.inl rfl) dX10_kind_92 ⟨by simp [kindR, kindI, kindOk, kindS, *], rfl, by simp [kindR, kindI, kindOk, kindS, *], rfl, rfl⟩
  · refine v_iload_n C dX10_kind_9 rfl ?_
    refine v_iconst 1 C dX10_kind_10 (by decide) ?_
    refine v_bipush 50 C dX10_kind_11 (by decide) ?_
    refine v_callSi C c_X10_within mt_X10_within lk_RX10_88 rfl rfl rfl rfl rfl dX10_kind_13 ?_
    refine v_if_eq 83 C dX10_kind_16 (by decide) (fun h16 => ?_) (fun h16 => ?_)
    · refine v_iconst 0 C dX10_kind_83 (by decide) ?_
      refine v_istore C dX10_kind_84 (Nat.le_of_ble_eq_true rfl) rfl ?_
      refine v_iload C dX10_kind_86 rfl ?_
      refine v_if_ne 93 C dX10_kind_88 (by decide) (fun h88 => False.elim (absurd h88 (by decide))) (fun h88 => ?_)
      refine v_iconst 0 C dX10_kind_91 (by decide) ?_
      exact v_zret C (Or.inl rfl) dX10_kind_92 ⟨by simp [kindR, kindI, kindOk, kindS, *], rfl, by simp [kindR, kindI, kindOk, kindS, *], rfl, rfl⟩
    · refine v_iload_n C dX10_kind_19 rfl ?_
      refine v_iconst 1 C dX10_kind_20 (by decide) ?_
      refine v_bipush 60 C dX10_kind_21 (by decide) ?_
      refine v_callSi C c_X10_within mt_X10_within lk_RX10_88 rfl rfl rfl rfl rfl dX10_kind_23 ?_
      refine v_if_eq 83 C dX10_kind_26 (by decide) (fun h26 => ?_) (fun h26 => ?_)
      · refine v_iconst 0 C dX10_kind_83 (by decide) ?_
        refine v_istore C dX10_kind_84 (Nat.le_of_ble_eq_true rfl) rfl ?_
        refine v_iload C dX10_kind_86 rfl ?_
        refine v_if_ne 93 C dX10_kind_88 (by decide) (fun h88 => False.elim (absurd h88 (by decide))) (fun h88 => ?_)
        refine v_iconst 0 C dX10_kind_91 (by decide) ?_
        exact v_zret C (Or.inl rfl) dX10_kind_92 ⟨by simp [kindR, kindI, kindOk, kindS, *], rfl, by simp [kindR, kindI, kindOk, kindS, *], rfl, rfl⟩
      · refine v_iload C dX10_kind_29 rfl ?_
        refine v_iconst 1 C dX10_kind_31 (by decide) ?_
        refine v_sipush 10000 C dX10_kind_32 (by decide) ?_
        refine v_callSi C c_X10_within mt_X10_within lk_RX10_88 rfl rfl rfl rfl rfl dX10_kind_35 ?_
        refine v_if_eq 83 C dX10_kind_38 (by decide) (fun h38 => ?_) (fun h38 => ?_)
        · refine v_iconst 0 C dX10_kind_83 (by decide) ?_
          refine v_istore C dX10_kind_84 (Nat.le_of_ble_eq_true rfl) rfl ?_
          refine v_iload C dX10_kind_86 rfl ?_
          refine v_if_ne 93 C dX10_kind_88 (by decide) (fun h88 => False.elim (absurd h88 (by decide))) (fun h88 => ?_)
          refine v_iconst 0 C dX10_kind_91 (by decide) ?_
          exact v_zret C (Or.inl rfl) dX10_kind_92 ⟨by simp [kindR, kindI, kindOk, kindS, *], rfl, by simp [kindR, kindI, kindOk, kindS, *], rfl, rfl⟩
        · refine v_iload C dX10_kind_41 rfl ?_
          refine v_iconst (-1) C dX10_kind_43 (by decide) ?_
          refine v_bipush 7 C dX10_kind_44 (by decide) ?_
          refine v_callSi C c_X10_within mt_X10_within lk_RX10_88 rfl rfl rfl rfl rfl dX10_kind_46 ?_
          refine v_if_eq 83 C dX10_kind_49 (by decide) (fun h49 => ?_) (fun h49 => ?_)
          · refine v_iconst 0 C dX10_kind_83 (by decide) ?_
            refine v_istore C dX10_kind_84 (Nat.le_of_ble_eq_true rfl) rfl ?_
            refine v_iload C dX10_kind_86 rfl ?_
            refine v_if_ne 93 C dX10_kind_88 (by decide) (fun h88 => False.elim (absurd h88 (by decide))) (fun h88 => ?_)
            refine v_iconst 0 C dX10_kind_91 (by decide) ?_
            exact v_zret C (Or.inl rfl) dX10_kind_92 ⟨by simp [kindR, kindI, kindOk, kindS, *], rfl, by simp [kindR, kindI, kindOk, kindS, *], rfl, rfl⟩
          · refine v_iload C dX10_kind_52 rfl ?_
            refine v_if_eq 68 C dX10_kind_54 (by decide) (fun h54 => ?_) (fun h54 => ?_)
            · refine v_iload C dX10_kind_68 rfl ?_
              refine v_iconst 1 C dX10_kind_70 (by decide) ?_
              refine v_bipush 40 C dX10_kind_71 (by decide) ?_
              refine v_callSi C c_X10_within mt_X10_within lk_RX10_88 rfl rfl rfl rfl rfl dX10_kind_73 ?_
              refine v_if_eq 83 C dX10_kind_76 (by decide) (fun h76 => ?_) (fun h76 => ?_)
              · refine v_iconst 0 C dX10_kind_83 (by decide) ?_
                refine v_istore C dX10_kind_84 (Nat.le_of_ble_eq_true rfl) rfl ?_
                refine v_iload C dX10_kind_86 rfl ?_
                refine v_if_ne 93 C dX10_kind_88 (by decide) (fun h88 => False.elim (absurd h88 (by decide))) (fun h88 => ?_)
                refine v_iconst 0 C dX10_kind_91 (by decide) ?_
                exact v_zret C (Or.inl rfl) dX10_kind_92 ⟨by simp [kindR, kindI, kindOk, kindS, *], rfl, by simp [kindR, kindI, kindOk, kindS, *], rfl, rfl⟩
              · refine v_iconst 1 C dX10_kind_79 (by decide) ?_
                refine v_goto 84 C dX10_kind_80 (by decide) ?_
                refine v_istore C dX10_kind_84 (Nat.le_of_ble_eq_true rfl) rfl ?_
                refine v_iload C dX10_kind_86 rfl ?_
                refine v_if_ne 93 C dX10_kind_88 (by decide) (fun h88 => ?_) (fun h88 => False.elim (absurd h88 (by decide)))
                refine v_aload_n C dX10_kind_93 rfl ?_
                refine v_getR 24 C fl_RX10_46 rfl (hs.1 0 _ rfl) (hs.2 0 5 24 rfl) dX10_kind_94 ?_
                refine v_iload_n C dX10_kind_97 rfl ?_
                refine v_aaload (ix k) C (hs.1 24 _ rfl) (cn := RX4) ⟨rfl, by decide, by decide⟩ (wI_at h6 (by decide)) (hs.kind (wI_at h6 (by decide) : At k 5 _).lt).2 dX10_kind_98 ?_
                refine v_astore C dX10_kind_99 (Nat.le_of_ble_eq_true rfl) rfl ?_
                refine v_aload C dX10_kind_101 rfl ?_
                refine v_iconst 1 C dX10_kind_103 (by decide) ?_
                refine v_putZ C fl_RX10_175 rfl (Or.inr rfl) (hs.kind (wI_at h6 (by decide) : At k 5 _).lt).1 dX10_kind_104 ?_
                refine v_aload C dX10_kind_107 rfl ?_
                refine v_iload_n C dX10_kind_109 rfl ?_
                refine v_putI C fl_RX10_179 rfl (hs.kind (wI_at h6 (by decide) : At k 5 _).lt).1 dX10_kind_110 ?_
                refine v_aload C dX10_kind_113 rfl ?_
                refine v_iload_n C dX10_kind_115 rfl ?_
                refine v_putI C fl_RX10_182 rfl (hs.kind (wI_at h6 (by decide) : At k 5 _).lt).1 dX10_kind_116 ?_
                refine v_aload C dX10_kind_119 rfl ?_
                refine v_iload C dX10_kind_121 rfl ?_
                refine v_putI C fl_RX10_185 rfl (hs.kind (wI_at h6 (by decide) : At k 5 _).lt).1 dX10_kind_123 ?_
                refine v_aload C dX10_kind_126 rfl ?_
                refine v_iload C dX10_kind_128 rfl ?_
                refine v_putI C fl_RX10_188 rfl (hs.kind (wI_at h6 (by decide) : At k 5 _).lt).1 dX10_kind_130 ?_
                refine v_aload C dX10_kind_133 rfl ?_
                refine v_iload C dX10_kind_135 rfl ?_
                refine v_putI C fl_RX10_189 rfl (hs.kind (wI_at h6 (by decide) : At k 5 _).lt).1 dX10_kind_137 ?_
                refine v_aload C dX10_kind_140 rfl ?_
                refine v_iload C dX10_kind_142 rfl ?_
                refine v_putI C fl_RX10_192 rfl (hs.kind (wI_at h6 (by decide) : At k 5 _).lt).1 dX10_kind_144 ?_
                refine v_iconst 1 C dX10_kind_147 (by decide) ?_
                exact v_zret C (Or.inr rfl) dX10_kind_148 ⟨by simp [kindR, kindI, kindOk, kindS, *], rfl, by simp [kindR, kindI, kindOk, kindS, *], rfl, rfl⟩
            · refine v_iload C dX10_kind_57 rfl ?_
              refine v_iconst 2 C dX10_kind_59 (by decide) ?_
              refine v_bipush 50 C dX10_kind_60 (by decide) ?_
              refine v_callSi C c_X10_within mt_X10_within lk_RX10_88 rfl rfl rfl rfl rfl dX10_kind_62 ?_
              refine v_if_eq 83 C dX10_kind_65 (by decide) (fun h65 => ?_) (fun h65 => ?_)
              · refine v_iconst 0 C dX10_kind_83 (by decide) ?_
                refine v_istore C dX10_kind_84 (Nat.le_of_ble_eq_true rfl) rfl ?_
                refine v_iload C dX10_kind_86 rfl ?_
                refine v_if_ne 93 C dX10_kind_88 (by decide) (fun h88 => False.elim (absurd h88 (by decide))) (fun h88 => ?_)
                refine v_iconst 0 C dX10_kind_91 (by decide) ?_
                exact v_zret C (Or.inl rfl) dX10_kind_92 ⟨by simp [kindR, kindI, kindOk, kindS, *], rfl, by simp [kindR, kindI, kindOk, kindS, *], rfl, rfl⟩
              · refine v_iload C dX10_kind_68 rfl ?_
                refine v_iconst 1 C dX10_kind_70 (by decide) ?_
                refine v_bipush 40 C dX10_kind_71 (by decide) ?_
                refine v_callSi C c_X10_within mt_X10_within lk_RX10_88 rfl rfl rfl rfl rfl dX10_kind_73 ?_
                refine v_if_eq 83 C dX10_kind_76 (by decide) (fun h76 => ?_) (fun h76 => ?_)
                · refine v_iconst 0 C dX10_kind_83 (by decide) ?_
                  refine v_istore C dX10_kind_84 (Nat.le_of_ble_eq_true rfl) rfl ?_
                  refine v_iload C dX10_kind_86 rfl ?_
                  refine v_if_ne 93 C dX10_kind_88 (by decide) (fun h88 => False.elim (absurd h88 (by decide))) (fun h88 => ?_)
                  refine v_iconst 0 C dX10_kind_91 (by decide) ?_
                  exact v_zret C (Or.inl rfl) dX10_kind_92 ⟨by simp [kindR, kindI, kindOk, kindS, *], rfl, by simp [kindR, kindI, kindOk, kindS, *], rfl, rfl⟩
                · refine v_iconst 1 C dX10_kind_79 (by decide) ?_
                  refine v_goto 84 C dX10_kind_80 (by decide) ?_
                  refine v_istore C dX10_kind_84 (Nat.le_of_ble_eq_true rfl) rfl ?_
                  refine v_iload C dX10_kind_86 rfl ?_
                  refine v_if_ne 93 C dX10_kind_88 (by decide) (fun h88 => ?_) (fun h88 => False.elim (absurd h88 (by decide)))
                  refine v_aload_n C dX10_kind_93 rfl ?_
                  refine v_getR 24 C fl_RX10_46 rfl (hs.1 0 _ rfl) (hs.2 0 5 24 rfl) dX10_kind_94 ?_
                  refine v_iload_n C dX10_kind_97 rfl ?_
                  refine v_aaload (ix k) C (hs.1 24 _ rfl) (cn := RX4) ⟨rfl, by decide, by decide⟩ (wI_at h6 (by decide)) (hs.kind (wI_at h6 (by decide) : At k 5 _).lt).2 dX10_kind_98 ?_
                  refine v_astore C dX10_kind_99 (Nat.le_of_ble_eq_true rfl) rfl ?_
                  refine v_aload C dX10_kind_101 rfl ?_
                  refine v_iconst 1 C dX10_kind_103 (by decide) ?_
                  refine v_putZ C fl_RX10_175 rfl (Or.inr rfl) (hs.kind (wI_at h6 (by decide) : At k 5 _).lt).1 dX10_kind_104 ?_
                  refine v_aload C dX10_kind_107 rfl ?_
                  refine v_iload_n C dX10_kind_109 rfl ?_
                  refine v_putI C fl_RX10_179 rfl (hs.kind (wI_at h6 (by decide) : At k 5 _).lt).1 dX10_kind_110 ?_
                  refine v_aload C dX10_kind_113 rfl ?_
                  refine v_iload_n C dX10_kind_115 rfl ?_
                  refine v_putI C fl_RX10_182 rfl (hs.kind (wI_at h6 (by decide) : At k 5 _).lt).1 dX10_kind_116 ?_
                  refine v_aload C dX10_kind_119 rfl ?_
                  refine v_iload C dX10_kind_121 rfl ?_
                  refine v_putI C fl_RX10_185 rfl (hs.kind (wI_at h6 (by decide) : At k 5 _).lt).1 dX10_kind_123 ?_
                  refine v_aload C dX10_kind_126 rfl ?_
                  refine v_iload C dX10_kind_128 rfl ?_
                  refine v_putI C fl_RX10_188 rfl (hs.kind (wI_at h6 (by decide) : At k 5 _).lt).1 dX10_kind_130 ?_
                  refine v_aload C dX10_kind_133 rfl ?_
                  refine v_iload C dX10_kind_135 rfl ?_
                  refine v_putI C fl_RX10_189 rfl (hs.kind (wI_at h6 (by decide) : At k 5 _).lt).1 dX10_kind_137 ?_
                  refine v_aload C dX10_kind_140 rfl ?_
                  refine v_iload C dX10_kind_142 rfl ?_
                  refine v_putI C fl_RX10_192 rfl (hs.kind (wI_at h6 (by decide) : At k 5 _).lt).1 dX10_kind_144 ?_
                  refine v_iconst 1 C dX10_kind_147 (by decide) ?_
                  exact v_zret C (Or.inr rfl) dX10_kind_148 ⟨by simp [kindR, kindI, kindOk, kindS, *], rfl, by simp [kindR, kindI, kindOk, kindS, *], rfl, rfl⟩

set_option maxHeartbeats 4000000 in
set_option maxRecDepth 100000 in
theorem c_X10_pot {lnc : Launch} {E : En} {sh : List Sh} {I : IM} {J : JM} {R : RM} {p x : Int32} (hs : St sh R) : Ct lnc E yX10_pot cX10_pot 3 (some .int) 3 61 [.ref 0, .int p, .int x] sh I J R 0 0 (m_ret (some (.int (potR I p x))) sh I J R) := by
  refine Ct.of (lv := [some (.ref 0), some (.int p), some (.int x)]) (by decide) (Nat.le_of_ble_eq_true rfl) rfl (fun X hX C => ?_)
  refine v_iload_n C dX10_pot_0 rfl ?_
  refine v_iconst 0 C dX10_pot_1 (by decide) ?_
  refine v_iconst 5 C dX10_pot_2 (by decide) ?_
  refine v_callSi C c_X10_within mt_X10_within lk_RX10_88 rfl rfl rfl rfl rfl dX10_pot_3 ?_
  refine v_if_ne 11 C dX10_pot_6 (by decide) (fun h6 => ?_) (fun h6 => ?_)
  · refine v_aload_n C dX10_pot_11 rfl ?_
    refine v_getR 17 C fl_RX10_39 rfl (hs.1 0 _ rfl) (hs.2 0 4 17 rfl) dX10_pot_12 ?_
    refine v_iload_n C dX10_pot_15 rfl ?_
    refine v_aaload (ix p) C (hs.1 17 _ rfl) (cn := RX7) ⟨rfl, by decide, by decide⟩ (wI_at h6 (by decide)) (hs.pot (wI_at h6 (by decide) : At p 6 _).lt).2 dX10_pot_16 ?_
    refine v_iload_n C dX10_pot_17 rfl ?_
    refine v_callVi C (c_X7_tell (hs.pot (wI_at h6 (by decide) : At p 6 _).lt).1) mt_X7_tell lk_RX10_217 rfl rfl (hs.pot (wI_at h6 (by decide) : At p 6 _).lt).1 rfl rfl rfl rfl rfl dX10_pot_18 ?_
    exact v_iret C dX10_pot_21 ⟨by simp [potR, potR.potT0, potT, *], rfl, rfl, rfl, rfl⟩
  · refine v_iconst (-1) C dX10_pot_9 (by decide) ?_
    exact v_iret C dX10_pot_10 ⟨by simp [potR, potR.potT0, potT, *], rfl, rfl, rfl, rfl⟩

set_option maxHeartbeats 4000000 in
set_option maxRecDepth 100000 in
theorem c_X10_cost {lnc : Launch} {E : En} {sh : List Sh} {I : IM} {J : JM} {R : RM} {s y c : Int32} (hs : St sh R) : Ct lnc E yX10_cost cX10_cost 4 (some .int) 2 45 [.ref 0, .int s, .int y, .int c] sh I J R 0 0 (m_ret (some (.int (costR I s y c))) sh (costI I s y c) J R) := by
  refine Ct.of (lv := [some (.ref 0), some (.int s), some (.int y), some (.int c)]) (by decide) (Nat.le_of_ble_eq_true rfl) rfl (fun X hX C => ?_)
  refine v_iload_n C dX10_cost_0 rfl ?_
  refine v_iconst 0 C dX10_cost_1 (by decide) ?_
  refine v_iconst 4 C dX10_cost_2 (by decide) ?_
  refine v_callSi C c_X10_within mt_X10_within lk_RX10_88 rfl rfl rfl rfl rfl dX10_cost_3 ?_
  refine v_if_eq 29 C dX10_cost_6 (by decide) (fun h6 => ?_) (fun h6 => ?_)
  · refine v_iconst (-1) C dX10_cost_29 (by decide) ?_
    exact v_iret C dX10_cost_30 ⟨by first | (simp [costR, costI, costOk, *]; done) | (simp [costR, costI, costOk, *]; rfl), rfl, by first | (simp [costR, costI, costOk, *]; done) | (simp [costR, costI, costOk, *]; rfl), rfl, rfl⟩
  · refine v_iload_n C dX10_cost_9 rfl ?_
    refine v_iconst 0 C dX10_cost_10 (by decide) ?_
    refine v_bipush 9 C dX10_cost_11 (by decide) ?_
    refine v_callSi C c_X10_within mt_X10_within lk_RX10_88 rfl rfl rfl rfl rfl dX10_cost_13 ?_
    refine v_if_eq 29 C dX10_cost_16 (by decide) (fun h16 => ?_) (fun h16 => ?_)
    · refine v_iconst (-1) C dX10_cost_29 (by decide) ?_
      exact v_iret C dX10_cost_30 ⟨by first | (simp [costR, costI, costOk, *]; done) | (simp [costR, costI, costOk, *]; rfl), rfl, by first | (simp [costR, costI, costOk, *]; done) | (simp [costR, costI, costOk, *]; rfl), rfl, rfl⟩
    · refine v_iload_n C dX10_cost_19 rfl ?_
      refine v_iconst 0 C dX10_cost_20 (by decide) ?_
      refine v_ldc 100000 C ct_RX10_168 dX10_cost_21 ?_
      refine v_callSi C c_X10_within mt_X10_within lk_RX10_88 rfl rfl rfl rfl rfl dX10_cost_23 ?_
      refine v_if_ne 31 C dX10_cost_26 (by decide) (fun h26 => ?_) (fun h26 => ?_)
      · refine v_aload_n C dX10_cost_31 rfl ?_
        refine v_getR 42 C fl_RX10_84 rfl (hs.1 0 _ rfl) (hs.2 0 10 42 rfl) dX10_cost_32 ?_
        refine v_getR 43 C fl_RX10_232 rfl (hs.1 42 _ rfl) (hs.2 42 0 43 rfl) dX10_cost_35 ?_
        refine v_iload_n C dX10_cost_38 rfl ?_
        refine v_iconst 5 C dX10_cost_39 (by decide) ?_
        refine v_imul C dX10_cost_40 ?_
        refine v_iload_n C dX10_cost_41 rfl ?_
        refine v_iadd C dX10_cost_42 ?_
        refine v_iload_n C dX10_cost_43 rfl ?_
        refine v_callSi C (c_X10_exchange (hs.1 43 _ rfl) (at_mul (k := 5) (n := 10) (m := 5) (wI_at h16 (by decide)) (wI_at h6 (by decide)) (by decide) (by decide) (by decide) (by decide) (by decide)).1 (by decide)) mt_X10_exchange lk_RX10_235 rfl rfl rfl rfl rfl dX10_cost_44 ?_
        exact v_iret C dX10_cost_47 ⟨by first | (simp [costR, costI, costOk, *]; done) | (simp [costR, costI, costOk, *]; rfl), rfl, by first | (simp [costR, costI, costOk, *]; done) | (simp [costR, costI, costOk, *]; rfl), rfl, rfl⟩
      · refine v_iconst (-1) C dX10_cost_29 (by decide) ?_
        exact v_iret C dX10_cost_30 ⟨by first | (simp [costR, costI, costOk, *]; done) | (simp [costR, costI, costOk, *]; rfl), rfl, by first | (simp [costR, costI, costOk, *]; done) | (simp [costR, costI, costOk, *]; rfl), rfl, rfl⟩

set_option maxHeartbeats 4000000 in
set_option maxRecDepth 100000 in
theorem c_X10_way {lnc : Launch} {E : En} {sh : List Sh} {I : IM} {J : JM} {R : RM} {a b c : Int32} (hs : St sh R) : Ct lnc E yX10_way cX10_way 4 (some .int) 2 45 [.ref 0, .int a, .int b, .int c] sh I J R 0 0 (m_ret (some (.int (wayR I a b c))) sh (wayI I a b c) J R) := by
  refine Ct.of (lv := [some (.ref 0), some (.int a), some (.int b), some (.int c)]) (by decide) (Nat.le_of_ble_eq_true rfl) rfl (fun X hX C => ?_)
  refine v_iload_n C dX10_way_0 rfl ?_
  refine v_iconst 0 C dX10_way_1 (by decide) ?_
  refine v_iconst 4 C dX10_way_2 (by decide) ?_
  refine v_callSi C c_X10_within mt_X10_within lk_RX10_88 rfl rfl rfl rfl rfl dX10_way_3 ?_
  refine v_if_eq 33 C dX10_way_6 (by decide) (fun h6 => ?_) (fun h6 => ?_)
  · refine v_iconst (-1) C dX10_way_33 (by decide) ?_
    exact v_iret C dX10_way_34 ⟨by first | (simp [wayR, wayI, wayOk, *]; done) | (simp [wayR, wayI, wayOk, *]; rfl), rfl, by first | (simp [wayR, wayI, wayOk, *]; done) | (simp [wayR, wayI, wayOk, *]; rfl), rfl, rfl⟩
  · refine v_iload_n C dX10_way_9 rfl ?_
    refine v_iconst 0 C dX10_way_10 (by decide) ?_
    refine v_iconst 4 C dX10_way_11 (by decide) ?_
    refine v_callSi C c_X10_within mt_X10_within lk_RX10_88 rfl rfl rfl rfl rfl dX10_way_12 ?_
    refine v_if_eq 33 C dX10_way_15 (by decide) (fun h15 => ?_) (fun h15 => ?_)
    · refine v_iconst (-1) C dX10_way_33 (by decide) ?_
      exact v_iret C dX10_way_34 ⟨by first | (simp [wayR, wayI, wayOk, *]; done) | (simp [wayR, wayI, wayOk, *]; rfl), rfl, by first | (simp [wayR, wayI, wayOk, *]; done) | (simp [wayR, wayI, wayOk, *]; rfl), rfl, rfl⟩
    · refine v_iload_n C dX10_way_18 rfl ?_
      refine v_iload_n C dX10_way_19 rfl ?_
      refine v_icmp_eq 33 C dX10_way_20 (by decide) (fun h20 => ?_) (fun h20 => ?_)
      · refine v_iconst (-1) C dX10_way_33 (by decide) ?_
        exact v_iret C dX10_way_34 ⟨by first | (simp [wayR, wayI, wayOk, *]; done) | (simp [wayR, wayI, wayOk, *]; rfl), rfl, by first | (simp [wayR, wayI, wayOk, *]; done) | (simp [wayR, wayI, wayOk, *]; rfl), rfl, rfl⟩
      · refine v_iload_n C dX10_way_23 rfl ?_
        refine v_iconst 0 C dX10_way_24 (by decide) ?_
        refine v_ldc 100000 C ct_RX10_168 dX10_way_25 ?_
        refine v_callSi C c_X10_within mt_X10_within lk_RX10_88 rfl rfl rfl rfl rfl dX10_way_27 ?_
        refine v_if_ne 35 C dX10_way_30 (by decide) (fun h30 => ?_) (fun h30 => ?_)
        · refine v_aload_n C dX10_way_35 rfl ?_
          refine v_getR 42 C fl_RX10_84 rfl (hs.1 0 _ rfl) (hs.2 0 10 42 rfl) dX10_way_36 ?_
          refine v_getR 44 C fl_RX10_239 rfl (hs.1 42 _ rfl) (hs.2 42 1 44 rfl) dX10_way_39 ?_
          refine v_iload_n C dX10_way_42 rfl ?_
          refine v_iconst 5 C dX10_way_43 (by decide) ?_
          refine v_imul C dX10_way_44 ?_
          refine v_iload_n C dX10_way_45 rfl ?_
          refine v_iadd C dX10_way_46 ?_
          refine v_iload_n C dX10_way_47 rfl ?_
          refine v_callSi C (c_X10_exchange (hs.1 44 _ rfl) (at_mul (k := 5) (n := 5) (m := 5) (wI_at h6 (by decide)) (wI_at h15 (by decide)) (by decide) (by decide) (by decide) (by decide) (by decide)).1 (by decide)) mt_X10_exchange lk_RX10_235 rfl rfl rfl rfl rfl dX10_way_48 ?_
          exact v_iret C dX10_way_51 ⟨by first | (simp [wayR, wayI, wayOk, *]; done) | (simp [wayR, wayI, wayOk, *]; rfl), rfl, by first | (simp [wayR, wayI, wayOk, *]; done) | (simp [wayR, wayI, wayOk, *]; rfl), rfl, rfl⟩
        · refine v_iconst (-1) C dX10_way_33 (by decide) ?_
          exact v_iret C dX10_way_34 ⟨by first | (simp [wayR, wayI, wayOk, *]; done) | (simp [wayR, wayI, wayOk, *]; rfl), rfl, by first | (simp [wayR, wayI, wayOk, *]; done) | (simp [wayR, wayI, wayOk, *]; rfl), rfl, rfl⟩

set_option maxHeartbeats 4000000 in
set_option maxRecDepth 100000 in
theorem c_X10_moved {lnc : Launch} {E : En} {sh : List Sh} {I : IM} {J : JM} {R : RM} {y : Int32} (hs : St sh R) (hy : ¬ wI y 0 (I 42 4 - 1) = 0 → At y 10 (ix y)) : Ct lnc E yX10_moved cX10_moved 2 (some .int) 1 22 [.ref 0, .int y] sh I J R 0 0 (m_ret (some (.int (movedR I y))) sh I J R) := by
  refine Ct.of (lv := [some (.ref 0), some (.int y)]) (by decide) (Nat.le_of_ble_eq_true rfl) rfl (fun X hX C => ?_)
  refine v_iload_n C dX10_moved_0 rfl ?_
  refine v_iconst 0 C dX10_moved_1 (by decide) ?_
  refine v_aload_n C dX10_moved_2 rfl ?_
  refine v_getR 42 C fl_RX10_84 rfl (hs.1 0 _ rfl) (hs.2 0 10 42 rfl) dX10_moved_3 ?_
  refine v_getI C fl_RX10_244 rfl (hs.1 42 _ rfl) dX10_moved_6 ?_
  refine v_iconst 1 C dX10_moved_9 (by decide) ?_
  refine v_isub C dX10_moved_10 ?_
  refine v_callSi C c_X10_within mt_X10_within lk_RX10_88 rfl rfl rfl rfl rfl dX10_moved_11 ?_
  refine v_if_ne 19 C dX10_moved_14 (by decide) (fun h14 => ?_) (fun h14 => ?_)
  · refine v_aload_n C dX10_moved_19 rfl ?_
    refine v_getR 42 C fl_RX10_84 rfl (hs.1 0 _ rfl) (hs.2 0 10 42 rfl) dX10_moved_20 ?_
    refine v_getR 46 C fl_RX10_247 rfl (hs.1 42 _ rfl) (hs.2 42 3 46 rfl) dX10_moved_23 ?_
    refine v_iload_n C dX10_moved_26 rfl ?_
    refine v_iaload (ix y) C (hs.1 46 _ rfl) (hy h14) dX10_moved_27 ?_
    exact v_iret C dX10_moved_28 ⟨by simp [movedR, *], rfl, rfl, rfl, rfl⟩
  · refine v_iconst (-1) C dX10_moved_17 (by decide) ?_
    exact v_iret C dX10_moved_18 ⟨by simp [movedR, *], rfl, rfl, rfl, rfl⟩

set_option maxHeartbeats 4000000 in
set_option maxRecDepth 100000 in
theorem c_X10_end {lnc : Launch} {E : En} {sh : List Sh} {I : IM} {J : JM} {R : RM} {n : Int32} (hs : St sh R) : Ct lnc E yX10_end cX10_end 2 (some .int) 1 22 [.ref 0, .int n] sh I J R 0 0 (m_ret (some (.int (endR (I 8 5) n))) sh (endI I 8 5 n) J R) := by
  refine Ct.of (lv := [some (.ref 0), some (.int n)]) (by decide) (Nat.le_of_ble_eq_true rfl) rfl (fun X hX C => ?_)
  refine v_iload_n C dX10_end_0 rfl ?_
  refine v_iconst 0 C dX10_end_1 (by decide) ?_
  refine v_aload_n C dX10_end_2 rfl ?_
  refine v_getR 8 C fl_RX10_26 rfl (hs.1 0 _ rfl) (hs.2 0 2 8 rfl) dX10_end_3 ?_
  refine v_getI C fl_RX10_131 rfl (hs.1 8 _ rfl) dX10_end_6 ?_
  refine v_callSi C c_X10_within mt_X10_within lk_RX10_88 rfl rfl rfl rfl rfl dX10_end_9 ?_
  refine v_if_ne 17 C dX10_end_12 (by decide) (fun h12 => ?_) (fun h12 => ?_)
  · refine v_aload_n C dX10_end_17 rfl ?_
    refine v_getR 8 C fl_RX10_26 rfl (hs.1 0 _ rfl) (hs.2 0 2 8 rfl) dX10_end_18 ?_
    refine v_iload_n C dX10_end_21 rfl ?_
    refine v_putI C fl_RX10_131 rfl (hs.1 8 _ rfl) dX10_end_22 ?_
    refine v_iload_n C dX10_end_25 rfl ?_
    exact v_iret C dX10_end_26 ⟨by simp [endR, endI, *], rfl, by simp [endR, endI, *], rfl, rfl⟩
  · refine v_iconst (-1) C dX10_end_15 (by decide) ?_
    exact v_iret C dX10_end_16 ⟨by simp [endR, endI, *], rfl, by simp [endR, endI, *], rfl, rfl⟩

set_option maxHeartbeats 4000000 in
set_option maxRecDepth 100000 in
theorem c_X8_tell {lnc : Launch} {E : En} {sh : List Sh} {I : IM} {J : JM} {R : RM} {x : Int32} (hs : St sh R) : Ct lnc E yX8_tell cX8_tell 2 (some .int) 1 22 [.ref 39, .int x] sh I J R 0 0 (m_ret (some (.int (shiftedR I x))) sh I J R) := by
  refine Ct.of (lv := [some (.ref 39), some (.int x)]) (by decide) (Nat.le_of_ble_eq_true rfl) rfl (fun X hX C => ?_)
  refine v_aload_n C dX8_tell_0 rfl ?_
  refine v_getI C fl_RX8_37 rfl (hs.1 39 _ rfl) dX8_tell_1 ?_
  refine v_if_ne 9 C dX8_tell_4 (by decide) (fun h4 => ?_) (fun h4 => ?_)
  · refine v_iload_n C dX8_tell_9 rfl ?_
    refine v_iconst 0 C dX8_tell_10 (by decide) ?_
    refine v_iconst 4 C dX8_tell_11 (by decide) ?_
    refine v_callNSi C c_X10_within mt_X10_within lk_RX8_72 rfl rfl rfl rfl rfl dX8_tell_12 ?_
    refine v_if_eq 25 C dX8_tell_15 (by decide) (fun h15 => ?_) (fun h15 => ?_)
    · refine v_iload_n C dX8_tell_25 rfl ?_
      by_cases h5 : x = 5
      · refine v_lookup 52 C dX8_tell_26 (by decide) (off := 26) (by rw [h5]; rfl) (by decide) ?_
        refine v_aload_n C dX8_tell_52 rfl ?_
        refine v_getI C fl_RX8_66 rfl (hs.1 39 _ rfl) dX8_tell_53 ?_
        exact v_iret C dX8_tell_56 ⟨by unfold shiftedR; rw [if_neg h4, if_pos h15, if_pos h5], rfl, rfl, rfl, rfl⟩
      · by_cases h6 : x = 6
        · refine v_lookup 57 C dX8_tell_26 (by decide) (off := 31) (by rw [h6]; rfl) (by decide) ?_
          refine v_aload_n C dX8_tell_57 rfl ?_
          refine v_getI C fl_RX8_69 rfl (hs.1 39 _ rfl) dX8_tell_58 ?_
          exact v_iret C dX8_tell_61 ⟨by unfold shiftedR; rw [if_neg h4, if_pos h15, if_neg h5, if_pos h6], rfl, rfl, rfl, rfl⟩
        · refine v_lookup 62 C dX8_tell_26 (by decide) (off := 36) (by rw [lv_osw h5 (by decide), lv_osw h6 (by decide)]; rfl) (by decide) ?_
          refine v_iconst (-1) C dX8_tell_62 (by decide) ?_
          exact v_iret C dX8_tell_63 ⟨by simp [shiftedR, *], rfl, rfl, rfl, rfl⟩
    · refine v_aload_n C dX8_tell_18 rfl ?_
      refine v_getR 41 C fl_RX8_15 rfl (hs.1 39 _ rfl) (hs.2 39 3 41 rfl) dX8_tell_19 ?_
      refine v_iload_n C dX8_tell_22 rfl ?_
      refine v_iaload (ix x) C (hs.1 41 _ rfl) (wI_at h15 (by decide)) dX8_tell_23 ?_
      exact v_iret C dX8_tell_24 ⟨by simp [shiftedR, *], rfl, rfl, rfl, rfl⟩
  · refine v_iconst (-1) C dX8_tell_7 (by decide) ?_
    exact v_iret C dX8_tell_8 ⟨by simp [shiftedR, *], rfl, rfl, rfl, rfl⟩

set_option maxHeartbeats 4000000 in
set_option maxRecDepth 100000 in
theorem c_X10_shifted {lnc : Launch} {E : En} {sh : List Sh} {I : IM} {J : JM} {R : RM} {x : Int32} (hs : St sh R) : Ct lnc E yX10_shifted cX10_shifted 2 (some .int) 2 43 [.ref 0, .int x] sh I J R 0 0 (m_ret (some (.int (shiftedR I x))) sh I J R) := by
  refine Ct.of (lv := [some (.ref 0), some (.int x)]) (by decide) (Nat.le_of_ble_eq_true rfl) rfl (fun X hX C => ?_)
  refine v_aload_n C dX10_shifted_0 rfl ?_
  refine v_getR 39 C fl_RX10_77 rfl (hs.1 0 _ rfl) (hs.2 0 9 39 rfl) dX10_shifted_1 ?_
  refine v_iload_n C dX10_shifted_4 rfl ?_
  refine v_callVi C (c_X8_tell hs) mt_X8_tell lk_RX10_231 rfl rfl (hs.1 39 _ rfl) rfl rfl rfl rfl rfl dX10_shifted_5 ?_
  exact v_iret C dX10_shifted_8 ⟨rfl, rfl, rfl, rfl, rfl⟩

set_option maxHeartbeats 4000000 in
set_option maxRecDepth 100000 in
theorem c_X10_count {lnc : Launch} {E : En} {sh : List Sh} {I : IM} {J : JM} {R : RM} {x : Int32} (hs : St sh R) (hsite : At (I 1 2) 5 (ix (I 1 2))) : Ct lnc E yX10_count cX10_count 2 (some .int) 1 22 [.ref 0, .int x] sh I J R 0 0 (m_ret (some (.int (countR I x))) sh I J R) := by
  refine Ct.of (lv := [some (.ref 0), some (.int x)]) (by decide) (Nat.le_of_ble_eq_true rfl) rfl (fun X hX C => ?_)
  refine v_iload_n C dX10_count_0 rfl ?_
  refine v_bipush 10 C dX10_count_1 (by decide) ?_
  refine v_bipush 12 C dX10_count_3 (by decide) ?_
  refine v_callSi C c_X10_within mt_X10_within lk_RX10_88 rfl rfl rfl rfl rfl dX10_count_5 ?_
  refine v_if_eq 24 C dX10_count_8 (by decide) (fun h8 => ?_) (fun h8 => ?_)
  · refine v_iload_n C dX10_count_24 rfl ?_
    refine v_bipush 20 C dX10_count_25 (by decide) ?_
    refine v_bipush 23 C dX10_count_27 (by decide) ?_
    refine v_callSi C c_X10_within mt_X10_within lk_RX10_88 rfl rfl rfl rfl rfl dX10_count_29 ?_
    refine v_if_eq 45 C dX10_count_32 (by decide) (fun h32 => ?_) (fun h32 => ?_)
    · refine v_iload_n C dX10_count_45 rfl ?_
      refine v_bipush 30 C dX10_count_46 (by decide) ?_
      refine v_bipush 34 C dX10_count_48 (by decide) ?_
      refine v_callSi C c_X10_within mt_X10_within lk_RX10_88 rfl rfl rfl rfl rfl dX10_count_50 ?_
      refine v_if_eq 69 C dX10_count_53 (by decide) (fun h53 => ?_) (fun h53 => ?_)
      · refine v_iload_n C dX10_count_69 rfl ?_
        rcases sw_split x 9 (by decide) with hsw | ⟨jsw, hjsw, hxsw⟩
        · refine v_tableOut 200 C dX10_count_70 (sw_out hsw) (by decide) ?_
          refine v_iconst (-1) C dX10_count_200 (by decide) ?_
          exact v_iret C dX10_count_201 ⟨by simp only [countR, if_pos h8, if_pos h32, if_pos h53]; rw [selT_out hsw rfl (by decide)], rfl, rfl, rfl, rfl⟩
        · rcases (show jsw = 0 ∨ jsw = 1 ∨ jsw = 2 ∨ jsw = 3 ∨ jsw = 4 ∨ jsw = 5 ∨ jsw = 6 ∨ jsw = 7 ∨ jsw = 8 ∨ jsw = 9 by omega) with hj | hj | hj | hj | hj | hj | hj | hj | hj | hj
          · have hxe : x = 0 := by rw [hxsw, hj]; rfl
            refine v_tableIn 124 C dX10_count_70 (by rw [hxe]; decide) (by rw [hxe]; decide) (by rw [hxe]; rfl) (by decide) ?_
            refine v_aload_n C dX10_count_124 rfl ?_
            refine v_getI C fl_RX10_211 rfl (hs.1 0 _ rfl) dX10_count_125 ?_
            exact v_iret C dX10_count_128 ⟨by simp only [countR, if_pos h8, if_pos h32, if_pos h53]; rw [hxe]; rfl, rfl, rfl, rfl, rfl⟩
          · have hxe : x = 1 := by rw [hxsw, hj]; rfl
            refine v_tableIn 129 C dX10_count_70 (by rw [hxe]; decide) (by rw [hxe]; decide) (by rw [hxe]; rfl) (by decide) ?_
            refine v_aload_n C dX10_count_129 rfl ?_
            refine v_getR 4 C fl_RX10_19 rfl (hs.1 0 _ rfl) (hs.2 0 1 4 rfl) dX10_count_130 ?_
            refine v_getI C fl_RX10_122 rfl (hs.1 4 _ rfl) dX10_count_133 ?_
            exact v_iret C dX10_count_136 ⟨by simp only [countR, if_pos h8, if_pos h32, if_pos h53]; rw [hxe]; rfl, rfl, rfl, rfl, rfl⟩
          · have hxe : x = 2 := by rw [hxsw, hj]; rfl
            refine v_tableIn 137 C dX10_count_70 (by rw [hxe]; decide) (by rw [hxe]; decide) (by rw [hxe]; rfl) (by decide) ?_
            refine v_aload_n C dX10_count_137 rfl ?_
            refine v_getR 1 C fl_RX10_10 rfl (hs.1 0 _ rfl) (hs.2 0 0 1 rfl) dX10_count_138 ?_
            refine v_getI C fl_RX10_251 rfl (hs.1 1 _ rfl) dX10_count_141 ?_
            exact v_iret C dX10_count_144 ⟨by simp only [countR, if_pos h8, if_pos h32, if_pos h53]; rw [hxe]; rfl, rfl, rfl, rfl, rfl⟩
          · have hxe : x = 3 := by rw [hxsw, hj]; rfl
            refine v_tableIn 145 C dX10_count_70 (by rw [hxe]; decide) (by rw [hxe]; decide) (by rw [hxe]; rfl) (by decide) ?_
            refine v_aload_n C dX10_count_145 rfl ?_
            refine v_getR 1 C fl_RX10_10 rfl (hs.1 0 _ rfl) (hs.2 0 0 1 rfl) dX10_count_146 ?_
            refine v_getI C fl_RX10_112 rfl (hs.1 1 _ rfl) dX10_count_149 ?_
            exact v_iret C dX10_count_152 ⟨by simp only [countR, if_pos h8, if_pos h32, if_pos h53]; rw [hxe]; rfl, rfl, rfl, rfl, rfl⟩
          · have hxe : x = 4 := by rw [hxsw, hj]; rfl
            refine v_tableIn 153 C dX10_count_70 (by rw [hxe]; decide) (by rw [hxe]; decide) (by rw [hxe]; rfl) (by decide) ?_
            refine v_aload_n C dX10_count_153 rfl ?_
            refine v_getR 1 C fl_RX10_10 rfl (hs.1 0 _ rfl) (hs.2 0 0 1 rfl) dX10_count_154 ?_
            refine v_getR 3 C fl_RX10_254 rfl (hs.1 1 _ rfl) (hs.2 1 1 3 rfl) dX10_count_157 ?_
            refine v_aload_n C dX10_count_160 rfl ?_
            refine v_getR 1 C fl_RX10_10 rfl (hs.1 0 _ rfl) (hs.2 0 0 1 rfl) dX10_count_161 ?_
            refine v_getI C fl_RX10_112 rfl (hs.1 1 _ rfl) dX10_count_164 ?_
            refine v_iaload (ix (I 1 2)) C (hs.1 3 _ rfl) hsite dX10_count_167 ?_
            exact v_iret C dX10_count_168 ⟨by simp only [countR, if_pos h8, if_pos h32, if_pos h53]; rw [hxe]; rfl, rfl, rfl, rfl, rfl⟩
          · have hxe : x = 5 := by rw [hxsw, hj]; rfl
            refine v_tableIn 169 C dX10_count_70 (by rw [hxe]; decide) (by rw [hxe]; decide) (by rw [hxe]; rfl) (by decide) ?_
            refine v_aload_n C dX10_count_169 rfl ?_
            refine v_getI C fl_RX10_153 rfl (hs.1 0 _ rfl) dX10_count_170 ?_
            exact v_iret C dX10_count_173 ⟨by simp only [countR, if_pos h8, if_pos h32, if_pos h53]; rw [hxe]; rfl, rfl, rfl, rfl, rfl⟩
          · have hxe : x = 6 := by rw [hxsw, hj]; rfl
            refine v_tableIn 174 C dX10_count_70 (by rw [hxe]; decide) (by rw [hxe]; decide) (by rw [hxe]; rfl) (by decide) ?_
            refine v_aload_n C dX10_count_174 rfl ?_
            refine v_getI C fl_RX10_147 rfl (hs.1 0 _ rfl) dX10_count_175 ?_
            exact v_iret C dX10_count_178 ⟨by simp only [countR, if_pos h8, if_pos h32, if_pos h53]; rw [hxe]; rfl, rfl, rfl, rfl, rfl⟩
          · have hxe : x = 7 := by rw [hxsw, hj]; rfl
            refine v_tableIn 179 C dX10_count_70 (by rw [hxe]; decide) (by rw [hxe]; decide) (by rw [hxe]; rfl) (by decide) ?_
            refine v_aload_n C dX10_count_179 rfl ?_
            refine v_getI C fl_RX10_220 rfl (hs.1 0 _ rfl) dX10_count_180 ?_
            exact v_iret C dX10_count_183 ⟨by simp only [countR, if_pos h8, if_pos h32, if_pos h53]; rw [hxe]; rfl, rfl, rfl, rfl, rfl⟩
          · have hxe : x = 8 := by rw [hxsw, hj]; rfl
            refine v_tableIn 184 C dX10_count_70 (by rw [hxe]; decide) (by rw [hxe]; decide) (by rw [hxe]; rfl) (by decide) ?_
            refine v_aload_n C dX10_count_184 rfl ?_
            refine v_getR 8 C fl_RX10_26 rfl (hs.1 0 _ rfl) (hs.2 0 2 8 rfl) dX10_count_185 ?_
            refine v_getI C fl_RX10_131 rfl (hs.1 8 _ rfl) dX10_count_188 ?_
            exact v_iret C dX10_count_191 ⟨by simp only [countR, if_pos h8, if_pos h32, if_pos h53]; rw [hxe]; rfl, rfl, rfl, rfl, rfl⟩
          · have hxe : x = 9 := by rw [hxsw, hj]; rfl
            refine v_tableIn 192 C dX10_count_70 (by rw [hxe]; decide) (by rw [hxe]; decide) (by rw [hxe]; rfl) (by decide) ?_
            refine v_aload_n C dX10_count_192 rfl ?_
            refine v_getR 14 C fl_RX10_33 rfl (hs.1 0 _ rfl) (hs.2 0 3 14 rfl) dX10_count_193 ?_
            refine v_getI C fl_RX10_144 rfl (hs.1 14 _ rfl) dX10_count_196 ?_
            exact v_iret C dX10_count_199 ⟨by simp only [countR, if_pos h8, if_pos h32, if_pos h53]; rw [hxe]; rfl, rfl, rfl, rfl, rfl⟩
      · refine v_aload_n C dX10_count_56 rfl ?_
        refine v_getR 24 C fl_RX10_46 rfl (hs.1 0 _ rfl) (hs.2 0 5 24 rfl) dX10_count_57 ?_
        refine v_iload_n C dX10_count_60 rfl ?_
        refine v_bipush 30 C dX10_count_61 (by decide) ?_
        refine v_isub C dX10_count_63 ?_
        refine v_aaload (ix (x - 30)) C (hs.1 24 _ rfl) (cn := RX4) ⟨rfl, by decide, by decide⟩ (wI_off h53 (by decide) (by decide)) (hs.kind (wI_off h53 (by decide) (by decide) : At (x - 30) 5 _).lt).2 dX10_count_64 ?_
        refine v_getI C fl_RX10_250 rfl (hs.kind (wI_off h53 (by decide) (by decide) : At (x - 30) 5 _).lt).1 dX10_count_65 ?_
        exact v_iret C dX10_count_68 ⟨by simp [countR, *], rfl, rfl, rfl, rfl⟩
    · refine v_aload_n C dX10_count_35 rfl ?_
      refine v_getR 37 C fl_RX10_58 rfl (hs.1 0 _ rfl) (hs.2 0 7 37 rfl) dX10_count_36 ?_
      refine v_iload_n C dX10_count_39 rfl ?_
      refine v_bipush 20 C dX10_count_40 (by decide) ?_
      refine v_isub C dX10_count_42 ?_
      refine v_iaload (ix (x - 20)) C (hs.1 37 _ rfl) (wI_off h32 (by decide) (by decide)) dX10_count_43 ?_
      exact v_iret C dX10_count_44 ⟨by simp [countR, *], rfl, rfl, rfl, rfl⟩
  · refine v_aload_n C dX10_count_11 rfl ?_
    refine v_getR 30 C fl_RX10_53 rfl (hs.1 0 _ rfl) (hs.2 0 6 30 rfl) dX10_count_12 ?_
    refine v_iload_n C dX10_count_15 rfl ?_
    refine v_bipush 10 C dX10_count_16 (by decide) ?_
    refine v_isub C dX10_count_18 ?_
    refine v_aaload (ix (x - 10)) C (hs.1 30 _ rfl) (cn := RX0) ⟨rfl, by decide, by decide⟩ (wI_off h8 (by decide) (by decide)) (hs.bay (wI_off h8 (by decide) (by decide) : At (x - 10) 3 _).lt).2.1 dX10_count_19 ?_
    refine v_getI C fl_RX10_207 rfl (hs.bay (wI_off h8 (by decide) (by decide) : At (x - 10) 3 _).lt).1 dX10_count_20 ?_
    exact v_iret C dX10_count_23 ⟨by simp [countR, *], rfl, rfl, rfl, rfl⟩
