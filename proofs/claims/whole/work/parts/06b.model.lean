theorem wI_01 {x lo hi : Int32} : wI x lo hi = 0 ∨ wI x lo hi = 1 := by
  unfold wI
  split
  · exact Or.inl rfl
  · split
    · exact Or.inl rfl
    · exact Or.inr rfl
set_option maxHeartbeats 4000000 in
set_option maxRecDepth 100000 in
theorem c_X11_isPot {lnc : Launch} {E : En} {sh : List Sh} {I : IM} {J : JM} {R : RM} {x : Int32} : Ct lnc E yX11_isPot cX11_isPot 1 (some .boolean) 1 22 [.int x] sh I J R 0 0 (m_ret (some (.int (wI x 0 5))) sh I J R) := by
  refine Ct.of (lv := [some (.int x)]) (by decide) (Nat.le_of_ble_eq_true rfl) rfl (fun X hX C => ?_)
  refine v_iload_n C dX11_isPot_0 rfl ?_
  refine v_iconst 0 C dX11_isPot_1 (by decide) ?_
  refine v_iconst 5 C dX11_isPot_2 (by decide) ?_
  refine v_callSi C c_X11_in mt_X11_in lk_RX11_140 rfl rfl rfl rfl rfl dX11_isPot_3 ?_
  exact v_zret C (wI_01) dX11_isPot_6 ⟨rfl, rfl, rfl, rfl, rfl⟩

set_option maxHeartbeats 4000000 in
set_option maxRecDepth 100000 in
theorem c_X11_right {lnc : Launch} {E : En} {sh : List Sh} {I : IM} {J : JM} {R : RM} {s m : Int32} (hs : St sh R) : Ct lnc E yX11_right cX11_right 4 (some .int) 1 22 [.ref 47, .int s, .int m] sh I J R 0 0 (m_ret (some (.int (rightR I 48 s m))) sh (rightI I 48 s m) J R) := by
  refine Ct.of (lv := [some (.ref 47), some (.int s), some (.int m), none]) (by decide) (Nat.le_of_ble_eq_true rfl) rfl (fun X hX C => ?_)
  refine v_iload_n C dX11_right_0 rfl ?_
  refine v_iconst 0 C dX11_right_1 (by decide) ?_
  refine v_iconst 4 C dX11_right_2 (by decide) ?_
  refine v_callSi C c_X11_in mt_X11_in lk_RX11_140 rfl rfl rfl rfl rfl dX11_right_3 ?_
  refine v_if_eq 20 C dX11_right_6 (by decide) (fun h6 => ?_) (fun h6 => ?_)
  · refine v_iconst (-1) C dX11_right_20 (by decide) ?_
    exact v_iret C dX11_right_21 ⟨by simp [rightR, rightI, *], rfl, by simp [rightR, rightI, *], rfl, rfl⟩
  · refine v_iload_n C dX11_right_9 rfl ?_
    refine v_iconst 0 C dX11_right_10 (by decide) ?_
    refine v_sipush 10000 C dX11_right_11 (by decide) ?_
    refine v_callSi C c_X11_in mt_X11_in lk_RX11_140 rfl rfl rfl rfl rfl dX11_right_14 ?_
    refine v_if_ne 22 C dX11_right_17 (by decide) (fun h17 => ?_) (fun h17 => ?_)
    · refine v_aload_n C dX11_right_22 rfl ?_
      refine v_getR 48 C fl_RX11_7 rfl (hs.1 47 _ rfl) (hs.2 47 6 48 rfl) dX11_right_23 ?_
      refine v_iload_n C dX11_right_26 rfl ?_
      refine v_iaload (ix s) C (hs.1 48 _ rfl) (wI_at h6 (by decide)) dX11_right_27 ?_
      refine v_istore_n C dX11_right_28 (Nat.le_of_ble_eq_true rfl) rfl ?_
      refine v_aload_n C dX11_right_29 rfl ?_
      refine v_getR 48 C fl_RX11_7 rfl (hs.1 47 _ rfl) (hs.2 47 6 48 rfl) dX11_right_30 ?_
      refine v_iload_n C dX11_right_33 rfl ?_
      refine v_iload_n C dX11_right_34 rfl ?_
      refine v_iastore (ix s) C (hs.1 48 _ rfl) (wI_at h6 (by decide)) dX11_right_35 ?_
      refine v_iload_n C dX11_right_36 rfl ?_
      exact v_iret C dX11_right_37 ⟨by simp [rightR, rightI, *], rfl, by simp [rightR, rightI, *], rfl, rfl⟩
    · refine v_iconst (-1) C dX11_right_20 (by decide) ?_
      exact v_iret C dX11_right_21 ⟨by simp [rightR, rightI, *], rfl, by simp [rightR, rightI, *], rfl, rfl⟩

set_option maxHeartbeats 4000000 in
set_option maxRecDepth 100000 in
theorem c_X11_cut {lnc : Launch} {E : En} {sh : List Sh} {I : IM} {J : JM} {R : RM} {m : Int32} (hs : St sh R) (hsite : At (I 47 1) 5 (ix (I 47 1))) : Ct lnc E yX11_cut cX11_cut 3 (some .int) 1 22 [.ref 47, .int m] sh I J R 0 0 (m_ret (some (.int (cutRm I m))) sh (cutIm I m) J R) := by
  refine Ct.of (lv := [some (.ref 47), some (.int m), none]) (by decide) (Nat.le_of_ble_eq_true rfl) rfl (fun X hX C => ?_)
  refine v_iload_n C dX11_cut_0 rfl ?_
  refine v_iconst 1 C dX11_cut_1 (by decide) ?_
  refine v_sipush 10000 C dX11_cut_2 (by decide) ?_
  refine v_callSi C c_X11_in mt_X11_in lk_RX11_140 rfl rfl rfl rfl rfl dX11_cut_5 ?_
  refine v_if_eq 21 C dX11_cut_8 (by decide) (fun h8 => ?_) (fun h8 => ?_)
  · refine v_iconst (-1) C dX11_cut_21 (by decide) ?_
    exact v_iret C dX11_cut_22 ⟨by simp [cutRm, cutN, *], rfl, by simp [cutIm, cutSm, cutN, iu_ap, *], rfl, rfl⟩
  · refine v_aload_n C dX11_cut_11 rfl ?_
    refine v_getI C fl_RX11_144 rfl (hs.1 47 _ rfl) dX11_cut_12 ?_
    refine v_sipush 5000 C dX11_cut_15 (by decide) ?_
    refine v_icmp_ne 23 C dX11_cut_18 (by decide) (fun h18 => ?_) (fun h18 => ?_)
    · refine v_iload_n C dX11_cut_23 rfl ?_
      refine v_istore_n C dX11_cut_24 (Nat.le_of_ble_eq_true rfl) rfl ?_
      refine v_aload_n C dX11_cut_25 rfl ?_
      refine v_getR 48 C fl_RX11_7 rfl (hs.1 47 _ rfl) (hs.2 47 6 48 rfl) dX11_cut_26 ?_
      refine v_aload_n C dX11_cut_29 rfl ?_
      refine v_getI C fl_RX11_148 rfl (hs.1 47 _ rfl) dX11_cut_30 ?_
      refine v_iaload (ix (I 47 1)) C (hs.1 48 _ rfl) hsite dX11_cut_33 ?_
      refine v_aload_n C dX11_cut_34 rfl ?_
      refine v_getR 49 C fl_RX11_13 rfl (hs.1 47 _ rfl) (hs.2 47 7 49 rfl) dX11_cut_35 ?_
      refine v_aload_n C dX11_cut_38 rfl ?_
      refine v_getI C fl_RX11_148 rfl (hs.1 47 _ rfl) dX11_cut_39 ?_
      refine v_iaload (ix (I 47 1)) C (hs.1 49 _ rfl) hsite dX11_cut_42 ?_
      refine v_isub C dX11_cut_43 ?_
      refine v_iload_n C dX11_cut_44 rfl ?_
      refine v_icmp_ge 68 C dX11_cut_45 (by decide) (fun h45 => ?_) (fun h45 => ?_)
      · refine v_sipush 20000 C dX11_cut_68 (by decide) ?_
        refine v_aload_n C dX11_cut_71 rfl ?_
        refine v_getI C fl_RX11_151 rfl (hs.1 47 _ rfl) dX11_cut_72 ?_
        refine v_isub C dX11_cut_75 ?_
        refine v_iload_n C dX11_cut_76 rfl ?_
        refine v_icmp_ge 89 C dX11_cut_77 (by decide) (fun h77 => ?_) (fun h77 => ?_)
        · refine v_iload_n C dX11_cut_89 rfl ?_
          refine v_if_ge 95 C dX11_cut_90 (by decide) (fun h90 => ?_) (fun h90 => ?_)
          · refine v_aload_n C dX11_cut_95 rfl ?_
            refine v_getR 49 C fl_RX11_13 rfl (hs.1 47 _ rfl) (hs.2 47 7 49 rfl) dX11_cut_96 ?_
            refine v_aload_n C dX11_cut_99 rfl ?_
            refine v_getI C fl_RX11_148 rfl (hs.1 47 _ rfl) dX11_cut_100 ?_
            refine v_dup2ir C dX11_cut_103 ?_
            refine v_iaload (ix (I 47 1)) C (hs.1 49 _ rfl) hsite dX11_cut_104 ?_
            refine v_iload_n C dX11_cut_105 rfl ?_
            refine v_iadd C dX11_cut_106 ?_
            refine v_iastore (ix (I 47 1)) C (hs.1 49 _ rfl) hsite dX11_cut_107 ?_
            refine v_aload_n C dX11_cut_108 rfl ?_
            refine v_dupr C dX11_cut_109 ?_
            refine v_getI C fl_RX11_151 rfl (hs.1 47 _ rfl) dX11_cut_110 ?_
            refine v_iload_n C dX11_cut_113 rfl ?_
            refine v_iadd C dX11_cut_114 ?_
            refine v_putI C fl_RX11_151 rfl (hs.1 47 _ rfl) dX11_cut_115 ?_
            refine v_iload_n C dX11_cut_118 rfl ?_
            exact v_iret C dX11_cut_119 ⟨by simp [cutRm, cutN, *], rfl, by simp [cutIm, cutSm, cutN, iu_ap, *], rfl, rfl⟩
          · refine v_iconst 0 C dX11_cut_93 (by decide) ?_
            refine v_istore_n C dX11_cut_94 (Nat.le_of_ble_eq_true rfl) rfl ?_
            refine v_aload_n C dX11_cut_95 rfl ?_
            refine v_getR 49 C fl_RX11_13 rfl (hs.1 47 _ rfl) (hs.2 47 7 49 rfl) dX11_cut_96 ?_
            refine v_aload_n C dX11_cut_99 rfl ?_
            refine v_getI C fl_RX11_148 rfl (hs.1 47 _ rfl) dX11_cut_100 ?_
            refine v_dup2ir C dX11_cut_103 ?_
            refine v_iaload (ix (I 47 1)) C (hs.1 49 _ rfl) hsite dX11_cut_104 ?_
            refine v_iload_n C dX11_cut_105 rfl ?_
            refine v_iadd C dX11_cut_106 ?_
            refine v_iastore (ix (I 47 1)) C (hs.1 49 _ rfl) hsite dX11_cut_107 ?_
            refine v_aload_n C dX11_cut_108 rfl ?_
            refine v_dupr C dX11_cut_109 ?_
            refine v_getI C fl_RX11_151 rfl (hs.1 47 _ rfl) dX11_cut_110 ?_
            refine v_iload_n C dX11_cut_113 rfl ?_
            refine v_iadd C dX11_cut_114 ?_
            refine v_putI C fl_RX11_151 rfl (hs.1 47 _ rfl) dX11_cut_115 ?_
            refine v_iload_n C dX11_cut_118 rfl ?_
            exact v_iret C dX11_cut_119 ⟨by simp [cutRm, cutN, *], rfl, by simp [cutIm, cutSm, cutN, iu_ap, *], rfl, rfl⟩
        · refine v_sipush 20000 C dX11_cut_80 (by decide) ?_
          refine v_aload_n C dX11_cut_83 rfl ?_
          refine v_getI C fl_RX11_151 rfl (hs.1 47 _ rfl) dX11_cut_84 ?_
          refine v_isub C dX11_cut_87 ?_
          refine v_istore_n C dX11_cut_88 (Nat.le_of_ble_eq_true rfl) rfl ?_
          refine v_iload_n C dX11_cut_89 rfl ?_
          refine v_if_ge 95 C dX11_cut_90 (by decide) (fun h90 => ?_) (fun h90 => ?_)
          · refine v_aload_n C dX11_cut_95 rfl ?_
            refine v_getR 49 C fl_RX11_13 rfl (hs.1 47 _ rfl) (hs.2 47 7 49 rfl) dX11_cut_96 ?_
            refine v_aload_n C dX11_cut_99 rfl ?_
            refine v_getI C fl_RX11_148 rfl (hs.1 47 _ rfl) dX11_cut_100 ?_
            refine v_dup2ir C dX11_cut_103 ?_
            refine v_iaload (ix (I 47 1)) C (hs.1 49 _ rfl) hsite dX11_cut_104 ?_
            refine v_iload_n C dX11_cut_105 rfl ?_
            refine v_iadd C dX11_cut_106 ?_
            refine v_iastore (ix (I 47 1)) C (hs.1 49 _ rfl) hsite dX11_cut_107 ?_
            refine v_aload_n C dX11_cut_108 rfl ?_
            refine v_dupr C dX11_cut_109 ?_
            refine v_getI C fl_RX11_151 rfl (hs.1 47 _ rfl) dX11_cut_110 ?_
            refine v_iload_n C dX11_cut_113 rfl ?_
            refine v_iadd C dX11_cut_114 ?_
            refine v_putI C fl_RX11_151 rfl (hs.1 47 _ rfl) dX11_cut_115 ?_
            refine v_iload_n C dX11_cut_118 rfl ?_
            exact v_iret C dX11_cut_119 ⟨by simp [cutRm, cutN, *], rfl, by simp [cutIm, cutSm, cutN, iu_ap, *], rfl, rfl⟩
          · refine v_iconst 0 C dX11_cut_93 (by decide) ?_
            refine v_istore_n C dX11_cut_94 (Nat.le_of_ble_eq_true rfl) rfl ?_
            refine v_aload_n C dX11_cut_95 rfl ?_
            refine v_getR 49 C fl_RX11_13 rfl (hs.1 47 _ rfl) (hs.2 47 7 49 rfl) dX11_cut_96 ?_
            refine v_aload_n C dX11_cut_99 rfl ?_
            refine v_getI C fl_RX11_148 rfl (hs.1 47 _ rfl) dX11_cut_100 ?_
            refine v_dup2ir C dX11_cut_103 ?_
            refine v_iaload (ix (I 47 1)) C (hs.1 49 _ rfl) hsite dX11_cut_104 ?_
            refine v_iload_n C dX11_cut_105 rfl ?_
            refine v_iadd C dX11_cut_106 ?_
            refine v_iastore (ix (I 47 1)) C (hs.1 49 _ rfl) hsite dX11_cut_107 ?_
            refine v_aload_n C dX11_cut_108 rfl ?_
            refine v_dupr C dX11_cut_109 ?_
            refine v_getI C fl_RX11_151 rfl (hs.1 47 _ rfl) dX11_cut_110 ?_
            refine v_iload_n C dX11_cut_113 rfl ?_
            refine v_iadd C dX11_cut_114 ?_
            refine v_putI C fl_RX11_151 rfl (hs.1 47 _ rfl) dX11_cut_115 ?_
            refine v_iload_n C dX11_cut_118 rfl ?_
            exact v_iret C dX11_cut_119 ⟨by simp [cutRm, cutN, *], rfl, by simp [cutIm, cutSm, cutN, iu_ap, *], rfl, rfl⟩
      · refine v_aload_n C dX11_cut_48 rfl ?_
        refine v_getR 48 C fl_RX11_7 rfl (hs.1 47 _ rfl) (hs.2 47 6 48 rfl) dX11_cut_49 ?_
        refine v_aload_n C dX11_cut_52 rfl ?_
        refine v_getI C fl_RX11_148 rfl (hs.1 47 _ rfl) dX11_cut_53 ?_
        refine v_iaload (ix (I 47 1)) C (hs.1 48 _ rfl) hsite dX11_cut_56 ?_
        refine v_aload_n C dX11_cut_57 rfl ?_
        refine v_getR 49 C fl_RX11_13 rfl (hs.1 47 _ rfl) (hs.2 47 7 49 rfl) dX11_cut_58 ?_
        refine v_aload_n C dX11_cut_61 rfl ?_
        refine v_getI C fl_RX11_148 rfl (hs.1 47 _ rfl) dX11_cut_62 ?_
        refine v_iaload (ix (I 47 1)) C (hs.1 49 _ rfl) hsite dX11_cut_65 ?_
        refine v_isub C dX11_cut_66 ?_
        refine v_istore_n C dX11_cut_67 (Nat.le_of_ble_eq_true rfl) rfl ?_
        refine v_sipush 20000 C dX11_cut_68 (by decide) ?_
        refine v_aload_n C dX11_cut_71 rfl ?_
        refine v_getI C fl_RX11_151 rfl (hs.1 47 _ rfl) dX11_cut_72 ?_
        refine v_isub C dX11_cut_75 ?_
        refine v_iload_n C dX11_cut_76 rfl ?_
        refine v_icmp_ge 89 C dX11_cut_77 (by decide) (fun h77 => ?_) (fun h77 => ?_)
        · refine v_iload_n C dX11_cut_89 rfl ?_
          refine v_if_ge 95 C dX11_cut_90 (by decide) (fun h90 => ?_) (fun h90 => ?_)
          · refine v_aload_n C dX11_cut_95 rfl ?_
            refine v_getR 49 C fl_RX11_13 rfl (hs.1 47 _ rfl) (hs.2 47 7 49 rfl) dX11_cut_96 ?_
            refine v_aload_n C dX11_cut_99 rfl ?_
            refine v_getI C fl_RX11_148 rfl (hs.1 47 _ rfl) dX11_cut_100 ?_
            refine v_dup2ir C dX11_cut_103 ?_
            refine v_iaload (ix (I 47 1)) C (hs.1 49 _ rfl) hsite dX11_cut_104 ?_
            refine v_iload_n C dX11_cut_105 rfl ?_
            refine v_iadd C dX11_cut_106 ?_
            refine v_iastore (ix (I 47 1)) C (hs.1 49 _ rfl) hsite dX11_cut_107 ?_
            refine v_aload_n C dX11_cut_108 rfl ?_
            refine v_dupr C dX11_cut_109 ?_
            refine v_getI C fl_RX11_151 rfl (hs.1 47 _ rfl) dX11_cut_110 ?_
            refine v_iload_n C dX11_cut_113 rfl ?_
            refine v_iadd C dX11_cut_114 ?_
            refine v_putI C fl_RX11_151 rfl (hs.1 47 _ rfl) dX11_cut_115 ?_
            refine v_iload_n C dX11_cut_118 rfl ?_
            exact v_iret C dX11_cut_119 ⟨by simp [cutRm, cutN, *], rfl, by simp [cutIm, cutSm, cutN, iu_ap, *], rfl, rfl⟩
          · refine v_iconst 0 C dX11_cut_93 (by decide) ?_
            refine v_istore_n C dX11_cut_94 (Nat.le_of_ble_eq_true rfl) rfl ?_
            refine v_aload_n C dX11_cut_95 rfl ?_
            refine v_getR 49 C fl_RX11_13 rfl (hs.1 47 _ rfl) (hs.2 47 7 49 rfl) dX11_cut_96 ?_
            refine v_aload_n C dX11_cut_99 rfl ?_
            refine v_getI C fl_RX11_148 rfl (hs.1 47 _ rfl) dX11_cut_100 ?_
            refine v_dup2ir C dX11_cut_103 ?_
            refine v_iaload (ix (I 47 1)) C (hs.1 49 _ rfl) hsite dX11_cut_104 ?_
            refine v_iload_n C dX11_cut_105 rfl ?_
            refine v_iadd C dX11_cut_106 ?_
            refine v_iastore (ix (I 47 1)) C (hs.1 49 _ rfl) hsite dX11_cut_107 ?_
            refine v_aload_n C dX11_cut_108 rfl ?_
            refine v_dupr C dX11_cut_109 ?_
            refine v_getI C fl_RX11_151 rfl (hs.1 47 _ rfl) dX11_cut_110 ?_
            refine v_iload_n C dX11_cut_113 rfl ?_
            refine v_iadd C dX11_cut_114 ?_
            refine v_putI C fl_RX11_151 rfl (hs.1 47 _ rfl) dX11_cut_115 ?_
            refine v_iload_n C dX11_cut_118 rfl ?_
            exact v_iret C dX11_cut_119 ⟨by simp [cutRm, cutN, *], rfl, by simp [cutIm, cutSm, cutN, iu_ap, *], rfl, rfl⟩
        · refine v_sipush 20000 C dX11_cut_80 (by decide) ?_
          refine v_aload_n C dX11_cut_83 rfl ?_
          refine v_getI C fl_RX11_151 rfl (hs.1 47 _ rfl) dX11_cut_84 ?_
          refine v_isub C dX11_cut_87 ?_
          refine v_istore_n C dX11_cut_88 (Nat.le_of_ble_eq_true rfl) rfl ?_
          refine v_iload_n C dX11_cut_89 rfl ?_
          refine v_if_ge 95 C dX11_cut_90 (by decide) (fun h90 => ?_) (fun h90 => ?_)
          · refine v_aload_n C dX11_cut_95 rfl ?_
            refine v_getR 49 C fl_RX11_13 rfl (hs.1 47 _ rfl) (hs.2 47 7 49 rfl) dX11_cut_96 ?_
            refine v_aload_n C dX11_cut_99 rfl ?_
            refine v_getI C fl_RX11_148 rfl (hs.1 47 _ rfl) dX11_cut_100 ?_
            refine v_dup2ir C dX11_cut_103 ?_
            refine v_iaload (ix (I 47 1)) C (hs.1 49 _ rfl) hsite dX11_cut_104 ?_
            refine v_iload_n C dX11_cut_105 rfl ?_
            refine v_iadd C dX11_cut_106 ?_
            refine v_iastore (ix (I 47 1)) C (hs.1 49 _ rfl) hsite dX11_cut_107 ?_
            refine v_aload_n C dX11_cut_108 rfl ?_
            refine v_dupr C dX11_cut_109 ?_
            refine v_getI C fl_RX11_151 rfl (hs.1 47 _ rfl) dX11_cut_110 ?_
            refine v_iload_n C dX11_cut_113 rfl ?_
            refine v_iadd C dX11_cut_114 ?_
            refine v_putI C fl_RX11_151 rfl (hs.1 47 _ rfl) dX11_cut_115 ?_
            refine v_iload_n C dX11_cut_118 rfl ?_
            exact v_iret C dX11_cut_119 ⟨by simp [cutRm, cutN, *], rfl, by simp [cutIm, cutSm, cutN, iu_ap, *], rfl, rfl⟩
          · refine v_iconst 0 C dX11_cut_93 (by decide) ?_
            refine v_istore_n C dX11_cut_94 (Nat.le_of_ble_eq_true rfl) rfl ?_
            refine v_aload_n C dX11_cut_95 rfl ?_
            refine v_getR 49 C fl_RX11_13 rfl (hs.1 47 _ rfl) (hs.2 47 7 49 rfl) dX11_cut_96 ?_
            refine v_aload_n C dX11_cut_99 rfl ?_
            refine v_getI C fl_RX11_148 rfl (hs.1 47 _ rfl) dX11_cut_100 ?_
            refine v_dup2ir C dX11_cut_103 ?_
            refine v_iaload (ix (I 47 1)) C (hs.1 49 _ rfl) hsite dX11_cut_104 ?_
            refine v_iload_n C dX11_cut_105 rfl ?_
            refine v_iadd C dX11_cut_106 ?_
            refine v_iastore (ix (I 47 1)) C (hs.1 49 _ rfl) hsite dX11_cut_107 ?_
            refine v_aload_n C dX11_cut_108 rfl ?_
            refine v_dupr C dX11_cut_109 ?_
            refine v_getI C fl_RX11_151 rfl (hs.1 47 _ rfl) dX11_cut_110 ?_
            refine v_iload_n C dX11_cut_113 rfl ?_
            refine v_iadd C dX11_cut_114 ?_
            refine v_putI C fl_RX11_151 rfl (hs.1 47 _ rfl) dX11_cut_115 ?_
            refine v_iload_n C dX11_cut_118 rfl ?_
            exact v_iret C dX11_cut_119 ⟨by simp [cutRm, cutN, *], rfl, by simp [cutIm, cutSm, cutN, iu_ap, *], rfl, rfl⟩
    · refine v_iconst (-1) C dX11_cut_21 (by decide) ?_
      exact v_iret C dX11_cut_22 ⟨by simp [cutRm, cutN, *], rfl, by simp [cutIm, cutSm, cutN, iu_ap, *], rfl, rfl⟩

set_option maxHeartbeats 4000000 in
set_option maxRecDepth 100000 in
theorem c_X11_rate {lnc : Launch} {E : En} {sh : List Sh} {I : IM} {J : JM} {R : RM} {r : Int32} (hs : St sh R) : Ct lnc E yX11_rate cX11_rate 3 (some .int) 1 22 [.ref 47, .int r] sh I J R 0 0 (m_ret (some (.int (rateR I 47 3 r))) sh (rateI I 47 3 r) J R) := by
  refine Ct.of (lv := [some (.ref 47), some (.int r), none]) (by decide) (Nat.le_of_ble_eq_true rfl) rfl (fun X hX C => ?_)
  refine v_iload_n C dX11_rate_0 rfl ?_
  refine v_iconst 0 C dX11_rate_1 (by decide) ?_
  refine v_bipush 20 C dX11_rate_2 (by decide) ?_
  refine v_callSi C c_X11_in mt_X11_in lk_RX11_140 rfl rfl rfl rfl rfl dX11_rate_4 ?_
  refine v_if_ne 12 C dX11_rate_7 (by decide) (fun h7 => ?_) (fun h7 => ?_)
  · refine v_aload_n C dX11_rate_12 rfl ?_
    refine v_getI C fl_RX11_154 rfl (hs.1 47 _ rfl) dX11_rate_13 ?_
    refine v_istore_n C dX11_rate_16 (Nat.le_of_ble_eq_true rfl) rfl ?_
    refine v_aload_n C dX11_rate_17 rfl ?_
    refine v_iload_n C dX11_rate_18 rfl ?_
    refine v_putI C fl_RX11_154 rfl (hs.1 47 _ rfl) dX11_rate_19 ?_
    refine v_iload_n C dX11_rate_22 rfl ?_
    exact v_iret C dX11_rate_23 ⟨by simp [rateR, rateI, *], rfl, by simp [rateR, rateI, *], rfl, rfl⟩
  · refine v_iconst (-1) C dX11_rate_10 (by decide) ?_
    exact v_iret C dX11_rate_11 ⟨by simp [rateR, rateI, *], rfl, by simp [rateR, rateI, *], rfl, rfl⟩

set_option maxHeartbeats 4000000 in
set_option maxRecDepth 100000 in
theorem c_X11_cold {lnc : Launch} {E : En} {sh : List Sh} {I : IM} {J : JM} {R : RM} {f t d : Int32} (hs : St sh R) (hn : ¬ I 47 8 = 20 → At (I 47 8) 20 (ix (I 47 8))) : Ct lnc E yX11_cold cX11_cold 4 (some .int) 1 22 [.ref 47, .int f, .int t, .int d] sh I J R 0 0 (m_ret (some (.int (coldRm I f t d))) sh (coldIm I f t d) J R) := by
  refine Ct.of (lv := [some (.ref 47), some (.int f), some (.int t), some (.int d)]) (by decide) (Nat.le_of_ble_eq_true rfl) rfl (fun X hX C => ?_)
  refine v_aload_n C dX11_cold_0 rfl ?_
  refine v_getI C fl_RX11_157 rfl (hs.1 47 _ rfl) dX11_cold_1 ?_
  refine v_bipush 20 C dX11_cold_4 (by decide) ?_
  refine v_icmp_eq 39 C dX11_cold_6 (by decide) (fun h6 => ?_) (fun h6 => ?_)
  · refine v_iconst (-1) C dX11_cold_39 (by decide) ?_
    exact v_iret C dX11_cold_40 ⟨by simp [coldRm, coldOkm, iu_ap, *], rfl, by simp [coldIm, coldOkm, spellIm, iu_ap, *], rfl, rfl⟩
  · refine v_iload_n C dX11_cold_9 rfl ?_
    refine v_iconst 0 C dX11_cold_10 (by decide) ?_
    refine v_iload_n C dX11_cold_11 rfl ?_
    refine v_callSi C c_X11_in mt_X11_in lk_RX11_140 rfl rfl rfl rfl rfl dX11_cold_12 ?_
    refine v_if_eq 39 C dX11_cold_15 (by decide) (fun h15 => ?_) (fun h15 => ?_)
    · refine v_iconst (-1) C dX11_cold_39 (by decide) ?_
      exact v_iret C dX11_cold_40 ⟨by simp [coldRm, coldOkm, iu_ap, *], rfl, by simp [coldIm, coldOkm, spellIm, iu_ap, *], rfl, rfl⟩
    · refine v_iload_n C dX11_cold_18 rfl ?_
      refine v_iconst 0 C dX11_cold_19 (by decide) ?_
      refine v_sipush 4999 C dX11_cold_20 (by decide) ?_
      refine v_callSi C c_X11_in mt_X11_in lk_RX11_140 rfl rfl rfl rfl rfl dX11_cold_23 ?_
      refine v_if_eq 39 C dX11_cold_26 (by decide) (fun h26 => ?_) (fun h26 => ?_)
      · refine v_iconst (-1) C dX11_cold_39 (by decide) ?_
        exact v_iret C dX11_cold_40 ⟨by simp [coldRm, coldOkm, iu_ap, *], rfl, by simp [coldIm, coldOkm, spellIm, iu_ap, *], rfl, rfl⟩
      · refine v_iload_n C dX11_cold_29 rfl ?_
        refine v_iconst 1 C dX11_cold_30 (by decide) ?_
        refine v_bipush 100 C dX11_cold_31 (by decide) ?_
        refine v_callSi C c_X11_in mt_X11_in lk_RX11_140 rfl rfl rfl rfl rfl dX11_cold_33 ?_
        refine v_if_ne 41 C dX11_cold_36 (by decide) (fun h36 => ?_) (fun h36 => ?_)
        · refine v_aload_n C dX11_cold_41 rfl ?_
          refine v_getR 50 C fl_RX11_16 rfl (hs.1 47 _ rfl) (hs.2 47 9 50 rfl) dX11_cold_42 ?_
          refine v_aload_n C dX11_cold_45 rfl ?_
          refine v_getI C fl_RX11_157 rfl (hs.1 47 _ rfl) dX11_cold_46 ?_
          refine v_iload_n C dX11_cold_49 rfl ?_
          refine v_iastore (ix (I 47 8)) C (hs.1 50 _ rfl) (hn h6) dX11_cold_50 ?_
          refine v_aload_n C dX11_cold_51 rfl ?_
          refine v_getR 51 C fl_RX11_19 rfl (hs.1 47 _ rfl) (hs.2 47 10 51 rfl) dX11_cold_52 ?_
          refine v_aload_n C dX11_cold_55 rfl ?_
          refine v_getI C fl_RX11_157 rfl (hs.1 47 _ rfl) dX11_cold_56 ?_
          refine v_iload_n C dX11_cold_59 rfl ?_
          refine v_iastore (ix (I 47 8)) C (hs.1 51 _ rfl) (hn h6) dX11_cold_60 ?_
          refine v_aload_n C dX11_cold_61 rfl ?_
          refine v_getR 52 C fl_RX11_22 rfl (hs.1 47 _ rfl) (hs.2 47 11 52 rfl) dX11_cold_62 ?_
          refine v_aload_n C dX11_cold_65 rfl ?_
          refine v_getI C fl_RX11_157 rfl (hs.1 47 _ rfl) dX11_cold_66 ?_
          refine v_iload_n C dX11_cold_69 rfl ?_
          refine v_iastore (ix (I 47 8)) C (hs.1 52 _ rfl) (hn h6) dX11_cold_70 ?_
          refine v_aload_n C dX11_cold_71 rfl ?_
          refine v_dupr C dX11_cold_72 ?_
          refine v_getI C fl_RX11_157 rfl (hs.1 47 _ rfl) dX11_cold_73 ?_
          refine v_iconst 1 C dX11_cold_76 (by decide) ?_
          refine v_iadd C dX11_cold_77 ?_
          refine v_putI C fl_RX11_157 rfl (hs.1 47 _ rfl) dX11_cold_78 ?_
          refine v_aload_n C dX11_cold_81 rfl ?_
          refine v_getI C fl_RX11_157 rfl (hs.1 47 _ rfl) dX11_cold_82 ?_
          exact v_iret C dX11_cold_85 ⟨by simp [coldRm, coldOkm, iu_ap, *], rfl, by simp [coldIm, coldOkm, spellIm, iu_ap, *], rfl, rfl⟩
        · refine v_iconst (-1) C dX11_cold_39 (by decide) ?_
          exact v_iret C dX11_cold_40 ⟨by simp [coldRm, coldOkm, iu_ap, *], rfl, by simp [coldIm, coldOkm, spellIm, iu_ap, *], rfl, rfl⟩

set_option maxHeartbeats 4000000 in
set_option maxRecDepth 100000 in
theorem c_X11_end {lnc : Launch} {E : En} {sh : List Sh} {I : IM} {J : JM} {R : RM} {n : Int32} (hs : St sh R) : Ct lnc E yX11_end cX11_end 2 (some .int) 0 0 [.ref 47, .int n] sh I J R 0 0 (m_ret (some (.int (endRm (I 47 39) n))) sh (endIm I n) J R) := by
  refine Ct.of (lv := [some (.ref 47), some (.int n)]) (by decide) (Nat.le_of_ble_eq_true rfl) rfl (fun X hX C => ?_)
  refine v_iload_n C dX11_end_0 rfl ?_
  refine v_if_lt 12 C dX11_end_1 (by decide) (fun h1 => ?_) (fun h1 => ?_)
  · refine v_iconst (-1) C dX11_end_12 (by decide) ?_
    exact v_iret C dX11_end_13 ⟨by simp [endRm, endIm, *], rfl, by simp [endRm, endIm, *], rfl, rfl⟩
  · refine v_iload_n C dX11_end_4 rfl ?_
    refine v_aload_n C dX11_end_5 rfl ?_
    refine v_getI C fl_RX11_163 rfl (hs.1 47 _ rfl) dX11_end_6 ?_
    refine v_icmp_le 14 C dX11_end_9 (by decide) (fun h9 => ?_) (fun h9 => ?_)
    · refine v_aload_n C dX11_end_14 rfl ?_
      refine v_iload_n C dX11_end_15 rfl ?_
      refine v_putI C fl_RX11_163 rfl (hs.1 47 _ rfl) dX11_end_16 ?_
      refine v_iload_n C dX11_end_19 rfl ?_
      exact v_iret C dX11_end_20 ⟨by simp [endRm, endIm, *], rfl, by simp [endRm, endIm, *], rfl, rfl⟩
    · refine v_iconst (-1) C dX11_end_12 (by decide) ?_
      exact v_iret C dX11_end_13 ⟨by simp [endRm, endIm, *], rfl, by simp [endRm, endIm, *], rfl, rfl⟩

set_option maxHeartbeats 4000000 in
set_option maxRecDepth 100000 in
theorem c_X11_isReady {lnc : Launch} {E : En} {sh : List Sh} {I : IM} {J : JM} {R : RM} {p : Int32} {j : Nat} (hs : St sh R) (hj : At p 6 j) : Ct lnc E yX11_isReady cX11_isReady 2 (some .boolean) 0 0 [.ref 47, .int p] sh I J R 0 0 (m_ret (some (.int (rdym (I 55 j) (I 56 j)))) sh I J R) := by
  refine Ct.of (lv := [some (.ref 47), some (.int p)]) (by decide) (Nat.le_of_ble_eq_true rfl) rfl (fun X hX C => ?_)
  refine v_aload_n C dX11_isReady_0 rfl ?_
  refine v_getR 55 C fl_RX11_31 rfl (hs.1 47 _ rfl) (hs.2 47 15 55 rfl) dX11_isReady_1 ?_
  refine v_iload_n C dX11_isReady_4 rfl ?_
  refine v_iaload j C (hs.1 55 _ rfl) hj dX11_isReady_5 ?_
  refine v_aload_n C dX11_isReady_6 rfl ?_
  refine v_getR 56 C fl_RX11_34 rfl (hs.1 47 _ rfl) (hs.2 47 16 56 rfl) dX11_isReady_7 ?_
  refine v_iload_n C dX11_isReady_10 rfl ?_
  refine v_iaload j C (hs.1 56 _ rfl) hj dX11_isReady_11 ?_
  refine v_icmp_lt 19 C dX11_isReady_12 (by decide) (fun h12 => ?_) (fun h12 => ?_)
  · refine v_iconst 0 C dX11_isReady_19 (by decide) ?_
    exact v_zret C (Or.inl rfl) dX11_isReady_20 ⟨by simp [rdym, *], rfl, rfl, rfl, rfl⟩
  · refine v_iconst 1 C dX11_isReady_15 (by decide) ?_
    refine v_goto 20 C dX11_isReady_16 (by decide) ?_
    exact v_zret C (Or.inr rfl) dX11_isReady_20 ⟨by simp [rdym, *], rfl, rfl, rfl, rfl⟩

set_option maxHeartbeats 4000000 in
set_option maxRecDepth 100000 in
theorem c_X11_buy {lnc : Launch} {E : En} {sh : List Sh} {I : IM} {J : JM} {R : RM} {b : Int32} (hs : St sh R) : Ct lnc E yX11_buy cX11_buy 2 (some .int) 1 22 [.ref 47, .int b] sh I J R 0 0 (m_ret (some (.int (buyR I 47 5 b))) sh (buyI I 47 5 b) J R) := by
  refine Ct.of (lv := [some (.ref 47), some (.int b)]) (by decide) (Nat.le_of_ble_eq_true rfl) rfl (fun X hX C => ?_)
  refine v_iload_n C dX11_buy_0 rfl ?_
  refine v_iconst 1 C dX11_buy_1 (by decide) ?_
  refine v_sipush 5000 C dX11_buy_2 (by decide) ?_
  refine v_callSi C c_X11_in mt_X11_in lk_RX11_140 rfl rfl rfl rfl rfl dX11_buy_5 ?_
  refine v_if_eq 22 C dX11_buy_8 (by decide) (fun h8 => ?_) (fun h8 => ?_)
  · refine v_iconst (-1) C dX11_buy_22 (by decide) ?_
    exact v_iret C dX11_buy_23 ⟨by simp [buyR, buyI, iu_ap, *], rfl, by simp [buyR, buyI, iu_ap, *], rfl, rfl⟩
  · refine v_aload_n C dX11_buy_11 rfl ?_
    refine v_getI C fl_RX11_213 rfl (hs.1 47 _ rfl) dX11_buy_12 ?_
    refine v_iload_n C dX11_buy_15 rfl ?_
    refine v_iadd C dX11_buy_16 ?_
    refine v_ldc 100000 C ct_RX11_216 dX11_buy_17 ?_
    refine v_icmp_le 24 C dX11_buy_19 (by decide) (fun h19 => ?_) (fun h19 => ?_)
    · refine v_aload_n C dX11_buy_24 rfl ?_
      refine v_dupr C dX11_buy_25 ?_
      refine v_getI C fl_RX11_213 rfl (hs.1 47 _ rfl) dX11_buy_26 ?_
      refine v_iload_n C dX11_buy_29 rfl ?_
      refine v_iadd C dX11_buy_30 ?_
      refine v_putI C fl_RX11_213 rfl (hs.1 47 _ rfl) dX11_buy_31 ?_
      refine v_aload_n C dX11_buy_34 rfl ?_
      refine v_getI C fl_RX11_213 rfl (hs.1 47 _ rfl) dX11_buy_35 ?_
      exact v_iret C dX11_buy_38 ⟨by simp [buyR, buyI, iu_ap, *], rfl, by simp [buyR, buyI, iu_ap, *], rfl, rfl⟩
    · refine v_iconst (-1) C dX11_buy_22 (by decide) ?_
      exact v_iret C dX11_buy_23 ⟨by simp [buyR, buyI, iu_ap, *], rfl, by simp [buyR, buyI, iu_ap, *], rfl, rfl⟩

set_option maxHeartbeats 4000000 in
set_option maxRecDepth 100000 in
theorem c_X11_drop {lnc : Launch} {E : En} {sh : List Sh} {I : IM} {J : JM} {R : RM} {p : Int32} (hs : St sh R) : Ct lnc E yX11_drop cX11_drop 2 (some .int) 2 42 [.ref 47, .int p] sh I J R 0 0 (m_ret (some (.int (dropRm I p))) sh (dropIm I p) J R) := by
  refine Ct.of (lv := [some (.ref 47), some (.int p)]) (by decide) (Nat.le_of_ble_eq_true rfl) rfl (fun X hX C => ?_)
  refine v_iload_n C dX11_drop_0 rfl ?_
  refine v_callSi C c_X11_isPot mt_X11_isPot lk_RX11_207 rfl rfl rfl rfl rfl dX11_drop_1 ?_
  refine v_if_eq 16 C dX11_drop_4 (by decide) (fun h4 => ?_) (fun h4 => ?_)
  · refine v_iconst (-1) C dX11_drop_16 (by decide) ?_
    exact v_iret C dX11_drop_17 ⟨by simp [dropRm, iu_ap, *], rfl, by simp [dropIm, iu_ap, *], rfl, rfl⟩
  · refine v_aload_n C dX11_drop_7 rfl ?_
    refine v_getR 53 C fl_RX11_25 rfl (hs.1 47 _ rfl) (hs.2 47 13 53 rfl) dX11_drop_8 ?_
    refine v_iload_n C dX11_drop_11 rfl ?_
    refine v_iaload (ix p) C (hs.1 53 _ rfl) (wI_at h4 (by decide)) dX11_drop_12 ?_
    refine v_if_ge 18 C dX11_drop_13 (by decide) (fun h13 => ?_) (fun h13 => ?_)
    · refine v_aload_n C dX11_drop_18 rfl ?_
      refine v_dupr C dX11_drop_19 ?_
      refine v_getI C fl_RX11_213 rfl (hs.1 47 _ rfl) dX11_drop_20 ?_
      refine v_aload_n C dX11_drop_23 rfl ?_
      refine v_getR 54 C fl_RX11_28 rfl (hs.1 47 _ rfl) (hs.2 47 14 54 rfl) dX11_drop_24 ?_
      refine v_iload_n C dX11_drop_27 rfl ?_
      refine v_iaload (ix p) C (hs.1 54 _ rfl) (wI_at h4 (by decide)) dX11_drop_28 ?_
      refine v_iadd C dX11_drop_29 ?_
      refine v_putI C fl_RX11_213 rfl (hs.1 47 _ rfl) dX11_drop_30 ?_
      refine v_aload_n C dX11_drop_33 rfl ?_
      refine v_getR 53 C fl_RX11_25 rfl (hs.1 47 _ rfl) (hs.2 47 13 53 rfl) dX11_drop_34 ?_
      refine v_iload_n C dX11_drop_37 rfl ?_
      refine v_iconst (-1) C dX11_drop_38 (by decide) ?_
      refine v_iastore (ix p) C (hs.1 53 _ rfl) (wI_at h4 (by decide)) dX11_drop_39 ?_
      refine v_aload_n C dX11_drop_40 rfl ?_
      refine v_getR 54 C fl_RX11_28 rfl (hs.1 47 _ rfl) (hs.2 47 14 54 rfl) dX11_drop_41 ?_
      refine v_iload_n C dX11_drop_44 rfl ?_
      refine v_iaload (ix p) C (hs.1 54 _ rfl) (wI_at h4 (by decide)) dX11_drop_45 ?_
      exact v_iret C dX11_drop_46 ⟨by simp [dropRm, iu_ap, *], rfl, by simp [dropIm, iu_ap, *], rfl, rfl⟩
    · refine v_iconst (-1) C dX11_drop_16 (by decide) ?_
      exact v_iret C dX11_drop_17 ⟨by simp [dropRm, iu_ap, *], rfl, by simp [dropIm, iu_ap, *], rfl, rfl⟩

theorem rdym_01 {d n : Int32} (h : ¬ rdym d n = 0) : rdym d n = 1 := by
  unfold rdym at h ⊢
  split at h
  · exact absurd rfl h
  · rename_i h1; rw [if_neg h1]

set_option maxHeartbeats 4000000 in
set_option maxRecDepth 100000 in
theorem c_X11_pot {lnc : Launch} {E : En} {sh : List Sh} {I : IM} {J : JM} {R : RM} {p x : Int32} (hs : St sh R) : Ct lnc E yX11_pot cX11_pot 3 (some .int) 2 42 [.ref 47, .int p, .int x] sh I J R 0 0 (m_ret (some (.int (potRm I p x))) sh I J R) := by
  refine Ct.of (lv := [some (.ref 47), some (.int p), some (.int x)]) (by decide) (Nat.le_of_ble_eq_true rfl) rfl (fun X hX C => ?_)
  refine v_iload_n C dX11_pot_0 rfl ?_
  refine v_callSi C c_X11_isPot mt_X11_isPot lk_RX11_207 rfl rfl rfl rfl rfl dX11_pot_1 ?_
  refine v_if_eq 16 C dX11_pot_4 (by decide) (fun h4 => ?_) (fun h4 => ?_)
  · refine v_iconst (-1) C dX11_pot_16 (by decide) ?_
    exact v_iret C dX11_pot_17 ⟨by simp [potRm, *], rfl, rfl, rfl, rfl⟩
  · refine v_aload_n C dX11_pot_7 rfl ?_
    refine v_getR 53 C fl_RX11_25 rfl (hs.1 47 _ rfl) (hs.2 47 13 53 rfl) dX11_pot_8 ?_
    refine v_iload_n C dX11_pot_11 rfl ?_
    refine v_iaload (ix p) C (hs.1 53 _ rfl) (wI_at h4 (by decide)) dX11_pot_12 ?_
    refine v_if_ge 18 C dX11_pot_13 (by decide) (fun h13 => ?_) (fun h13 => ?_)
    · refine v_iload_n C dX11_pot_18 rfl ?_
      rcases sw_split x 5 (by decide) with hsw | ⟨jsw, hjsw, hxsw⟩
      · refine v_tableOut 105 C dX11_pot_19 (sw_out hsw) (by decide) ?_
        refine v_iconst (-1) C dX11_pot_105 (by decide) ?_
        exact v_iret C dX11_pot_106 ⟨by simp only [potRm, if_neg h4, if_pos h13]; rw [selT_out hsw rfl (by decide)], rfl, rfl, rfl, rfl⟩
      · rcases (show jsw = 0 ∨ jsw = 1 ∨ jsw = 2 ∨ jsw = 3 ∨ jsw = 4 ∨ jsw = 5 by omega) with hj | hj | hj | hj | hj | hj
        · have hxe : x = 0 := by rw [hxsw, hj]; rfl
          refine v_tableIn 56 C dX11_pot_19 (by rw [hxe]; decide) (by rw [hxe]; decide) (by rw [hxe]; rfl) (by decide) ?_
          refine v_aload_n C dX11_pot_56 rfl ?_
          refine v_getR 53 C fl_RX11_25 rfl (hs.1 47 _ rfl) (hs.2 47 13 53 rfl) dX11_pot_57 ?_
          refine v_iload_n C dX11_pot_60 rfl ?_
          refine v_iaload (ix p) C (hs.1 53 _ rfl) (wI_at h4 (by decide)) dX11_pot_61 ?_
          exact v_iret C dX11_pot_62 ⟨by rw [hxe]; simp only [potRm, if_neg h4, if_pos h13]; rfl, rfl, rfl, rfl, rfl⟩
        · have hxe : x = 1 := by rw [hxsw, hj]; rfl
          refine v_tableIn 63 C dX11_pot_19 (by rw [hxe]; decide) (by rw [hxe]; decide) (by rw [hxe]; rfl) (by decide) ?_
          refine v_aload_n C dX11_pot_63 rfl ?_
          refine v_getR 54 C fl_RX11_28 rfl (hs.1 47 _ rfl) (hs.2 47 14 54 rfl) dX11_pot_64 ?_
          refine v_iload_n C dX11_pot_67 rfl ?_
          refine v_iaload (ix p) C (hs.1 54 _ rfl) (wI_at h4 (by decide)) dX11_pot_68 ?_
          exact v_iret C dX11_pot_69 ⟨by rw [hxe]; simp only [potRm, if_neg h4, if_pos h13]; rfl, rfl, rfl, rfl, rfl⟩
        · have hxe : x = 2 := by rw [hxsw, hj]; rfl
          refine v_tableIn 70 C dX11_pot_19 (by rw [hxe]; decide) (by rw [hxe]; decide) (by rw [hxe]; rfl) (by decide) ?_
          refine v_aload_n C dX11_pot_70 rfl ?_
          refine v_getR 55 C fl_RX11_31 rfl (hs.1 47 _ rfl) (hs.2 47 15 55 rfl) dX11_pot_71 ?_
          refine v_iload_n C dX11_pot_74 rfl ?_
          refine v_iaload (ix p) C (hs.1 55 _ rfl) (wI_at h4 (by decide)) dX11_pot_75 ?_
          exact v_iret C dX11_pot_76 ⟨by rw [hxe]; simp only [potRm, if_neg h4, if_pos h13]; rfl, rfl, rfl, rfl, rfl⟩
        · have hxe : x = 3 := by rw [hxsw, hj]; rfl
          refine v_tableIn 77 C dX11_pot_19 (by rw [hxe]; decide) (by rw [hxe]; decide) (by rw [hxe]; rfl) (by decide) ?_
          refine v_aload_n C dX11_pot_77 rfl ?_
          refine v_getR 56 C fl_RX11_34 rfl (hs.1 47 _ rfl) (hs.2 47 16 56 rfl) dX11_pot_78 ?_
          refine v_iload_n C dX11_pot_81 rfl ?_
          refine v_iaload (ix p) C (hs.1 56 _ rfl) (wI_at h4 (by decide)) dX11_pot_82 ?_
          exact v_iret C dX11_pot_83 ⟨by rw [hxe]; simp only [potRm, if_neg h4, if_pos h13]; rfl, rfl, rfl, rfl, rfl⟩
        · have hxe : x = 4 := by rw [hxsw, hj]; rfl
          refine v_tableIn 84 C dX11_pot_19 (by rw [hxe]; decide) (by rw [hxe]; decide) (by rw [hxe]; rfl) (by decide) ?_
          refine v_aload_n C dX11_pot_84 rfl ?_
          refine v_iload_n C dX11_pot_85 rfl ?_
          refine v_callVi C (c_X11_isReady hs (wI_at h4 (by decide))) mt_X11_isReady lk_RX11_217 rfl rfl (hs.1 47 _ rfl) rfl rfl rfl rfl rfl dX11_pot_86 ?_
          refine v_if_eq 96 C dX11_pot_89 (by decide) (fun h89 => ?_) (fun h89 => ?_)
          · refine v_iconst 0 C dX11_pot_96 (by decide) ?_
            exact v_iret C dX11_pot_97 ⟨by rw [hxe]; simp only [potRm, if_neg h4, if_pos h13]; first | (rw [rdym_01 h89]; rfl) | (rw [h89]; rfl), rfl, rfl, rfl, rfl⟩
          · refine v_iconst 1 C dX11_pot_92 (by decide) ?_
            refine v_goto 97 C dX11_pot_93 (by decide) ?_
            exact v_iret C dX11_pot_97 ⟨by rw [hxe]; simp only [potRm, if_neg h4, if_pos h13]; first | (rw [rdym_01 h89]; rfl) | (rw [h89]; rfl), rfl, rfl, rfl, rfl⟩
        · have hxe : x = 5 := by rw [hxsw, hj]; rfl
          refine v_tableIn 98 C dX11_pot_19 (by rw [hxe]; decide) (by rw [hxe]; decide) (by rw [hxe]; rfl) (by decide) ?_
          refine v_aload_n C dX11_pot_98 rfl ?_
          refine v_getR 57 C fl_RX11_37 rfl (hs.1 47 _ rfl) (hs.2 47 17 57 rfl) dX11_pot_99 ?_
          refine v_iload_n C dX11_pot_102 rfl ?_
          refine v_iaload (ix p) C (hs.1 57 _ rfl) (wI_at h4 (by decide)) dX11_pot_103 ?_
          exact v_iret C dX11_pot_104 ⟨by rw [hxe]; simp only [potRm, if_neg h4, if_pos h13]; rfl, rfl, rfl, rfl, rfl⟩
    · refine v_iconst (-1) C dX11_pot_16 (by decide) ?_
      exact v_iret C dX11_pot_17 ⟨by simp [potRm, *], rfl, rfl, rfl, rfl⟩

set_option maxHeartbeats 4000000 in
set_option maxRecDepth 100000 in
theorem c_X11_kind {lnc : Launch} {E : En} {sh : List Sh} {I : IM} {J : JM} {R : RM} {k w m p c b h : Int32} (hs : St sh R) : Ct lnc E yX11_kind cX11_kind 8 (some .boolean) 1 22 [.ref 47, .int k, .int w, .int m, .int p, .int c, .int b, .int h] sh I J R 0 0 (m_ret (some (.int (kindR k w m p c b h))) sh (kindIm I k w m p c b h) J R) := by
  refine Ct.of (lv := [some (.ref 47), some (.int k), some (.int w), some (.int m), some (.int p), some (.int c), some (.int b), some (.int h)]) (by decide) (Nat.le_of_ble_eq_true rfl) rfl (fun X hX C => ?_)
  refine v_iload_n C dX11_kind_0 rfl ?_
  refine v_iconst 0 C dX11_kind_1 (by decide) ?_
  refine v_iconst 4 C dX11_kind_2 (by decide) ?_
  refine v_callSi C c_X11_in mt_X11_in lk_RX11_140 rfl rfl rfl rfl rfl dX11_kind_3 ?_
  refine v_if_eq 79 C dX11_kind_6 (by decide) (fun h6 => ?_) (fun h6 => ?_)
  · refine v_iconst 0 C dX11_kind_79 (by decide) ?_
    exact v_zret C (Or.inl rfl) dX11_kind_80 ⟨by simp [kindR, kindIm, kindOk, kindSm, *], rfl, by simp [kindR, kindIm, kindOk, kindSm, *], rfl, rfl⟩
  · refine v_iload_n C dX11_kind_9 rfl ?_
    refine v_iconst 1 C dX11_kind_10 (by decide) ?_
    refine v_bipush 50 C dX11_kind_11 (by decide) ?_
    refine v_callSi C c_X11_in mt_X11_in lk_RX11_140 rfl rfl rfl rfl rfl dX11_kind_13 ?_
    refine v_if_eq 79 C dX11_kind_16 (by decide) (fun h16 => ?_) (fun h16 => ?_)
    · refine v_iconst 0 C dX11_kind_79 (by decide) ?_
      exact v_zret C (Or.inl rfl) dX11_kind_80 ⟨by simp [kindR, kindIm, kindOk, kindSm, *], rfl, by simp [kindR, kindIm, kindOk, kindSm, *], rfl, rfl⟩
    · refine v_iload_n C dX11_kind_19 rfl ?_
      refine v_iconst 1 C dX11_kind_20 (by decide) ?_
      refine v_bipush 60 C dX11_kind_21 (by decide) ?_
      refine v_callSi C c_X11_in mt_X11_in lk_RX11_140 rfl rfl rfl rfl rfl dX11_kind_23 ?_
      refine v_if_eq 79 C dX11_kind_26 (by decide) (fun h26 => ?_) (fun h26 => ?_)
      · refine v_iconst 0 C dX11_kind_79 (by decide) ?_
        exact v_zret C (Or.inl rfl) dX11_kind_80 ⟨by simp [kindR, kindIm, kindOk, kindSm, *], rfl, by simp [kindR, kindIm, kindOk, kindSm, *], rfl, rfl⟩
      · refine v_iload C dX11_kind_29 rfl ?_
        refine v_iconst 1 C dX11_kind_31 (by decide) ?_
        refine v_sipush 10000 C dX11_kind_32 (by decide) ?_
        refine v_callSi C c_X11_in mt_X11_in lk_RX11_140 rfl rfl rfl rfl rfl dX11_kind_35 ?_
        refine v_if_eq 79 C dX11_kind_38 (by decide) (fun h38 => ?_) (fun h38 => ?_)
        · refine v_iconst 0 C dX11_kind_79 (by decide) ?_
          exact v_zret C (Or.inl rfl) dX11_kind_80 ⟨by simp [kindR, kindIm, kindOk, kindSm, *], rfl, by simp [kindR, kindIm, kindOk, kindSm, *], rfl, rfl⟩
        · refine v_iload C dX11_kind_41 rfl ?_
          refine v_iconst (-1) C dX11_kind_43 (by decide) ?_
          refine v_bipush 7 C dX11_kind_44 (by decide) ?_
          refine v_callSi C c_X11_in mt_X11_in lk_RX11_140 rfl rfl rfl rfl rfl dX11_kind_46 ?_
          refine v_if_eq 79 C dX11_kind_49 (by decide) (fun h49 => ?_) (fun h49 => ?_)
          · refine v_iconst 0 C dX11_kind_79 (by decide) ?_
            exact v_zret C (Or.inl rfl) dX11_kind_80 ⟨by simp [kindR, kindIm, kindOk, kindSm, *], rfl, by simp [kindR, kindIm, kindOk, kindSm, *], rfl, rfl⟩
          · refine v_iload C dX11_kind_52 rfl ?_
            refine v_if_eq 68 C dX11_kind_54 (by decide) (fun h54 => ?_) (fun h54 => ?_)
            · refine v_iload C dX11_kind_68 rfl ?_
              refine v_iconst 1 C dX11_kind_70 (by decide) ?_
              refine v_bipush 40 C dX11_kind_71 (by decide) ?_
              refine v_callSi C c_X11_in mt_X11_in lk_RX11_140 rfl rfl rfl rfl rfl dX11_kind_73 ?_
              refine v_if_ne 81 C dX11_kind_76 (by decide) (fun h76 => ?_) (fun h76 => ?_)
              · refine v_aload_n C dX11_kind_81 rfl ?_
                refine v_getR 58 C fl_RX11_40 rfl (hs.1 47 _ rfl) (hs.2 47 18 58 rfl) dX11_kind_82 ?_
                refine v_iload_n C dX11_kind_85 rfl ?_
                refine v_iconst 1 C dX11_kind_86 (by decide) ?_
                refine v_zastore (ix k) C (hs.1 58 _ rfl) (wI_at h6 (by decide)) rfl dX11_kind_87 ?_
                refine v_aload_n C dX11_kind_88 rfl ?_
                refine v_getR 59 C fl_RX11_44 rfl (hs.1 47 _ rfl) (hs.2 47 19 59 rfl) dX11_kind_89 ?_
                refine v_iload_n C dX11_kind_92 rfl ?_
                refine v_iload_n C dX11_kind_93 rfl ?_
                refine v_iastore (ix k) C (hs.1 59 _ rfl) (wI_at h6 (by decide)) dX11_kind_94 ?_
                refine v_aload_n C dX11_kind_95 rfl ?_
                refine v_getR 60 C fl_RX11_47 rfl (hs.1 47 _ rfl) (hs.2 47 20 60 rfl) dX11_kind_96 ?_
                refine v_iload_n C dX11_kind_99 rfl ?_
                refine v_iload_n C dX11_kind_100 rfl ?_
                refine v_iastore (ix k) C (hs.1 60 _ rfl) (wI_at h6 (by decide)) dX11_kind_101 ?_
                refine v_aload_n C dX11_kind_102 rfl ?_
                refine v_getR 61 C fl_RX11_50 rfl (hs.1 47 _ rfl) (hs.2 47 21 61 rfl) dX11_kind_103 ?_
                refine v_iload_n C dX11_kind_106 rfl ?_
                refine v_iload C dX11_kind_107 rfl ?_
                refine v_iastore (ix k) C (hs.1 61 _ rfl) (wI_at h6 (by decide)) dX11_kind_109 ?_
                refine v_aload_n C dX11_kind_110 rfl ?_
                refine v_getR 62 C fl_RX11_53 rfl (hs.1 47 _ rfl) (hs.2 47 22 62 rfl) dX11_kind_111 ?_
                refine v_iload_n C dX11_kind_114 rfl ?_
                refine v_iload C dX11_kind_115 rfl ?_
                refine v_iastore (ix k) C (hs.1 62 _ rfl) (wI_at h6 (by decide)) dX11_kind_117 ?_
                refine v_aload_n C dX11_kind_118 rfl ?_
                refine v_getR 63 C fl_RX11_56 rfl (hs.1 47 _ rfl) (hs.2 47 23 63 rfl) dX11_kind_119 ?_
                refine v_iload_n C dX11_kind_122 rfl ?_
                refine v_iload C dX11_kind_123 rfl ?_
                refine v_iastore (ix k) C (hs.1 63 _ rfl) (wI_at h6 (by decide)) dX11_kind_125 ?_
                refine v_aload_n C dX11_kind_126 rfl ?_
                refine v_getR 64 C fl_RX11_59 rfl (hs.1 47 _ rfl) (hs.2 47 24 64 rfl) dX11_kind_127 ?_
                refine v_iload_n C dX11_kind_130 rfl ?_
                refine v_iload C dX11_kind_131 rfl ?_
                refine v_iastore (ix k) C (hs.1 64 _ rfl) (wI_at h6 (by decide)) dX11_kind_133 ?_
                refine v_iconst 1 C dX11_kind_134 (by decide) ?_
                exact v_zret C (Or.inr rfl) dX11_kind_135 ⟨by simp [kindR, kindIm, kindOk, kindSm, *], rfl, by simp [kindR, kindIm, kindOk, kindSm, *], rfl, rfl⟩
              · refine v_iconst 0 C dX11_kind_79 (by decide) ?_
                exact v_zret C (Or.inl rfl) dX11_kind_80 ⟨by simp [kindR, kindIm, kindOk, kindSm, *], rfl, by simp [kindR, kindIm, kindOk, kindSm, *], rfl, rfl⟩
            · refine v_iload C dX11_kind_57 rfl ?_
              refine v_iconst 2 C dX11_kind_59 (by decide) ?_
              refine v_bipush 50 C dX11_kind_60 (by decide) ?_
              refine v_callSi C c_X11_in mt_X11_in lk_RX11_140 rfl rfl rfl rfl rfl dX11_kind_62 ?_
              refine v_if_eq 79 C dX11_kind_65 (by decide) (fun h65 => ?_) (fun h65 => ?_)
              · refine v_iconst 0 C dX11_kind_79 (by decide) ?_
                exact v_zret C (Or.inl rfl) dX11_kind_80 ⟨by simp [kindR, kindIm, kindOk, kindSm, *], rfl, by simp [kindR, kindIm, kindOk, kindSm, *], rfl, rfl⟩
              · refine v_iload C dX11_kind_68 rfl ?_
                refine v_iconst 1 C dX11_kind_70 (by decide) ?_
                refine v_bipush 40 C dX11_kind_71 (by decide) ?_
                refine v_callSi C c_X11_in mt_X11_in lk_RX11_140 rfl rfl rfl rfl rfl dX11_kind_73 ?_
                refine v_if_ne 81 C dX11_kind_76 (by decide) (fun h76 => ?_) (fun h76 => ?_)
                · refine v_aload_n C dX11_kind_81 rfl ?_
                  refine v_getR 58 C fl_RX11_40 rfl (hs.1 47 _ rfl) (hs.2 47 18 58 rfl) dX11_kind_82 ?_
                  refine v_iload_n C dX11_kind_85 rfl ?_
                  refine v_iconst 1 C dX11_kind_86 (by decide) ?_
                  refine v_zastore (ix k) C (hs.1 58 _ rfl) (wI_at h6 (by decide)) rfl dX11_kind_87 ?_
                  refine v_aload_n C dX11_kind_88 rfl ?_
                  refine v_getR 59 C fl_RX11_44 rfl (hs.1 47 _ rfl) (hs.2 47 19 59 rfl) dX11_kind_89 ?_
                  refine v_iload_n C dX11_kind_92 rfl ?_
                  refine v_iload_n C dX11_kind_93 rfl ?_
                  refine v_iastore (ix k) C (hs.1 59 _ rfl) (wI_at h6 (by decide)) dX11_kind_94 ?_
                  refine v_aload_n C dX11_kind_95 rfl ?_
                  refine v_getR 60 C fl_RX11_47 rfl (hs.1 47 _ rfl) (hs.2 47 20 60 rfl) dX11_kind_96 ?_
                  refine v_iload_n C dX11_kind_99 rfl ?_
                  refine v_iload_n C dX11_kind_100 rfl ?_
                  refine v_iastore (ix k) C (hs.1 60 _ rfl) (wI_at h6 (by decide)) dX11_kind_101 ?_
                  refine v_aload_n C dX11_kind_102 rfl ?_
                  refine v_getR 61 C fl_RX11_50 rfl (hs.1 47 _ rfl) (hs.2 47 21 61 rfl) dX11_kind_103 ?_
                  refine v_iload_n C dX11_kind_106 rfl ?_
                  refine v_iload C dX11_kind_107 rfl ?_
                  refine v_iastore (ix k) C (hs.1 61 _ rfl) (wI_at h6 (by decide)) dX11_kind_109 ?_
                  refine v_aload_n C dX11_kind_110 rfl ?_
                  refine v_getR 62 C fl_RX11_53 rfl (hs.1 47 _ rfl) (hs.2 47 22 62 rfl) dX11_kind_111 ?_
                  refine v_iload_n C dX11_kind_114 rfl ?_
                  refine v_iload C dX11_kind_115 rfl ?_
                  refine v_iastore (ix k) C (hs.1 62 _ rfl) (wI_at h6 (by decide)) dX11_kind_117 ?_
                  refine v_aload_n C dX11_kind_118 rfl ?_
                  refine v_getR 63 C fl_RX11_56 rfl (hs.1 47 _ rfl) (hs.2 47 23 63 rfl) dX11_kind_119 ?_
                  refine v_iload_n C dX11_kind_122 rfl ?_
                  refine v_iload C dX11_kind_123 rfl ?_
                  refine v_iastore (ix k) C (hs.1 63 _ rfl) (wI_at h6 (by decide)) dX11_kind_125 ?_
                  refine v_aload_n C dX11_kind_126 rfl ?_
                  refine v_getR 64 C fl_RX11_59 rfl (hs.1 47 _ rfl) (hs.2 47 24 64 rfl) dX11_kind_127 ?_
                  refine v_iload_n C dX11_kind_130 rfl ?_
                  refine v_iload C dX11_kind_131 rfl ?_
                  refine v_iastore (ix k) C (hs.1 64 _ rfl) (wI_at h6 (by decide)) dX11_kind_133 ?_
                  refine v_iconst 1 C dX11_kind_134 (by decide) ?_
                  exact v_zret C (Or.inr rfl) dX11_kind_135 ⟨by simp [kindR, kindIm, kindOk, kindSm, *], rfl, by simp [kindR, kindIm, kindOk, kindSm, *], rfl, rfl⟩
                · refine v_iconst 0 C dX11_kind_79 (by decide) ?_
                  exact v_zret C (Or.inl rfl) dX11_kind_80 ⟨by simp [kindR, kindIm, kindOk, kindSm, *], rfl, by simp [kindR, kindIm, kindOk, kindSm, *], rfl, rfl⟩

set_option maxHeartbeats 4000000 in
set_option maxRecDepth 100000 in
theorem c_X11_cost {lnc : Launch} {E : En} {sh : List Sh} {I : IM} {J : JM} {R : RM} {s y c : Int32} (hs : St sh R) : Ct lnc E yX11_cost cX11_cost 5 (some .int) 1 22 [.ref 47, .int s, .int y, .int c] sh I J R 0 0 (m_ret (some (.int (costRm I s y c))) sh (costIm I s y c) J R) := by
  refine Ct.of (lv := [some (.ref 47), some (.int s), some (.int y), some (.int c), none]) (by decide) (Nat.le_of_ble_eq_true rfl) rfl (fun X hX C => ?_)
  refine v_iload_n C dX11_cost_0 rfl ?_
  refine v_iconst 0 C dX11_cost_1 (by decide) ?_
  refine v_iconst 4 C dX11_cost_2 (by decide) ?_
  refine v_callSi C c_X11_in mt_X11_in lk_RX11_140 rfl rfl rfl rfl rfl dX11_cost_3 ?_
  refine v_if_eq 29 C dX11_cost_6 (by decide) (fun h6 => ?_) (fun h6 => ?_)
  · refine v_iconst (-1) C dX11_cost_29 (by decide) ?_
    exact v_iret C dX11_cost_30 ⟨by first | (simp [costRm, costIm, costOk, *]; done) | (simp [costRm, costIm, costOk, *]; rfl), rfl, by first | (simp [costRm, costIm, costOk, *]; done) | (simp [costRm, costIm, costOk, *]; rfl), rfl, rfl⟩
  · refine v_iload_n C dX11_cost_9 rfl ?_
    refine v_iconst 0 C dX11_cost_10 (by decide) ?_
    refine v_bipush 9 C dX11_cost_11 (by decide) ?_
    refine v_callSi C c_X11_in mt_X11_in lk_RX11_140 rfl rfl rfl rfl rfl dX11_cost_13 ?_
    refine v_if_eq 29 C dX11_cost_16 (by decide) (fun h16 => ?_) (fun h16 => ?_)
    · refine v_iconst (-1) C dX11_cost_29 (by decide) ?_
      exact v_iret C dX11_cost_30 ⟨by first | (simp [costRm, costIm, costOk, *]; done) | (simp [costRm, costIm, costOk, *]; rfl), rfl, by first | (simp [costRm, costIm, costOk, *]; done) | (simp [costRm, costIm, costOk, *]; rfl), rfl, rfl⟩
    · refine v_iload_n C dX11_cost_19 rfl ?_
      refine v_iconst 0 C dX11_cost_20 (by decide) ?_
      refine v_ldc 100000 C ct_RX11_216 dX11_cost_21 ?_
      refine v_callSi C c_X11_in mt_X11_in lk_RX11_140 rfl rfl rfl rfl rfl dX11_cost_23 ?_
      refine v_if_ne 31 C dX11_cost_26 (by decide) (fun h26 => ?_) (fun h26 => ?_)
      · refine v_aload_n C dX11_cost_31 rfl ?_
        refine v_getR 86 C fl_RX11_128 rfl (hs.1 47 _ rfl) (hs.2 47 53 86 rfl) dX11_cost_32 ?_
        refine v_bipush 10 C dX11_cost_35 (by decide) ?_
        refine v_iload_n C dX11_cost_37 rfl ?_
        refine v_imul C dX11_cost_38 ?_
        refine v_iload_n C dX11_cost_39 rfl ?_
        refine v_iadd C dX11_cost_40 ?_
        refine v_iaload (ix (10 * s + y)) C (hs.1 86 _ rfl) (at_mulr (k := 10) (n := 5) (m := 10) (wI_at h6 (by decide)) (wI_at h16 (by decide)) (by decide) (by decide) (by decide) (by decide) (by decide)).1 dX11_cost_41 ?_
        refine v_istore C dX11_cost_42 (Nat.le_of_ble_eq_true rfl) rfl ?_
        refine v_aload_n C dX11_cost_44 rfl ?_
        refine v_getR 86 C fl_RX11_128 rfl (hs.1 47 _ rfl) (hs.2 47 53 86 rfl) dX11_cost_45 ?_
        refine v_bipush 10 C dX11_cost_48 (by decide) ?_
        refine v_iload_n C dX11_cost_50 rfl ?_
        refine v_imul C dX11_cost_51 ?_
        refine v_iload_n C dX11_cost_52 rfl ?_
        refine v_iadd C dX11_cost_53 ?_
        refine v_iload_n C dX11_cost_54 rfl ?_
        refine v_iastore (ix (10 * s + y)) C (hs.1 86 _ rfl) (at_mulr (k := 10) (n := 5) (m := 10) (wI_at h6 (by decide)) (wI_at h16 (by decide)) (by decide) (by decide) (by decide) (by decide) (by decide)).1 dX11_cost_55 ?_
        refine v_iload C dX11_cost_56 rfl ?_
        exact v_iret C dX11_cost_58 ⟨by first | (simp [costRm, costIm, costOk, *]; done) | (simp [costRm, costIm, costOk, *]; rfl), rfl, by first | (simp [costRm, costIm, costOk, *]; done) | (simp [costRm, costIm, costOk, *]; rfl), rfl, rfl⟩
      · refine v_iconst (-1) C dX11_cost_29 (by decide) ?_
        exact v_iret C dX11_cost_30 ⟨by first | (simp [costRm, costIm, costOk, *]; done) | (simp [costRm, costIm, costOk, *]; rfl), rfl, by first | (simp [costRm, costIm, costOk, *]; done) | (simp [costRm, costIm, costOk, *]; rfl), rfl, rfl⟩

set_option maxHeartbeats 4000000 in
set_option maxRecDepth 100000 in
theorem c_X11_way {lnc : Launch} {E : En} {sh : List Sh} {I : IM} {J : JM} {R : RM} {a b c : Int32} (hs : St sh R) : Ct lnc E yX11_way cX11_way 5 (some .int) 1 22 [.ref 47, .int a, .int b, .int c] sh I J R 0 0 (m_ret (some (.int (wayRm I a b c))) sh (wayIm I a b c) J R) := by
  refine Ct.of (lv := [some (.ref 47), some (.int a), some (.int b), some (.int c), none]) (by decide) (Nat.le_of_ble_eq_true rfl) rfl (fun X hX C => ?_)
  refine v_iload_n C dX11_way_0 rfl ?_
  refine v_iconst 0 C dX11_way_1 (by decide) ?_
  refine v_iconst 4 C dX11_way_2 (by decide) ?_
  refine v_callSi C c_X11_in mt_X11_in lk_RX11_140 rfl rfl rfl rfl rfl dX11_way_3 ?_
  refine v_if_eq 33 C dX11_way_6 (by decide) (fun h6 => ?_) (fun h6 => ?_)
  · refine v_iconst (-1) C dX11_way_33 (by decide) ?_
    exact v_iret C dX11_way_34 ⟨by first | (simp [wayRm, wayIm, wayOk, *]; done) | (simp [wayRm, wayIm, wayOk, *]; rfl), rfl, by first | (simp [wayRm, wayIm, wayOk, *]; done) | (simp [wayRm, wayIm, wayOk, *]; rfl), rfl, rfl⟩
  · refine v_iload_n C dX11_way_9 rfl ?_
    refine v_iconst 0 C dX11_way_10 (by decide) ?_
    refine v_iconst 4 C dX11_way_11 (by decide) ?_
    refine v_callSi C c_X11_in mt_X11_in lk_RX11_140 rfl rfl rfl rfl rfl dX11_way_12 ?_
    refine v_if_eq 33 C dX11_way_15 (by decide) (fun h15 => ?_) (fun h15 => ?_)
    · refine v_iconst (-1) C dX11_way_33 (by decide) ?_
      exact v_iret C dX11_way_34 ⟨by first | (simp [wayRm, wayIm, wayOk, *]; done) | (simp [wayRm, wayIm, wayOk, *]; rfl), rfl, by first | (simp [wayRm, wayIm, wayOk, *]; done) | (simp [wayRm, wayIm, wayOk, *]; rfl), rfl, rfl⟩
    · refine v_iload_n C dX11_way_18 rfl ?_
      refine v_iload_n C dX11_way_19 rfl ?_
      refine v_icmp_eq 33 C dX11_way_20 (by decide) (fun h20 => ?_) (fun h20 => ?_)
      · refine v_iconst (-1) C dX11_way_33 (by decide) ?_
        exact v_iret C dX11_way_34 ⟨by first | (simp [wayRm, wayIm, wayOk, *]; done) | (simp [wayRm, wayIm, wayOk, *]; rfl), rfl, by first | (simp [wayRm, wayIm, wayOk, *]; done) | (simp [wayRm, wayIm, wayOk, *]; rfl), rfl, rfl⟩
      · refine v_iload_n C dX11_way_23 rfl ?_
        refine v_iconst 0 C dX11_way_24 (by decide) ?_
        refine v_ldc 100000 C ct_RX11_216 dX11_way_25 ?_
        refine v_callSi C c_X11_in mt_X11_in lk_RX11_140 rfl rfl rfl rfl rfl dX11_way_27 ?_
        refine v_if_ne 35 C dX11_way_30 (by decide) (fun h30 => ?_) (fun h30 => ?_)
        · refine v_aload_n C dX11_way_35 rfl ?_
          refine v_getR 87 C fl_RX11_131 rfl (hs.1 47 _ rfl) (hs.2 47 54 87 rfl) dX11_way_36 ?_
          refine v_iconst 5 C dX11_way_39 (by decide) ?_
          refine v_iload_n C dX11_way_40 rfl ?_
          refine v_imul C dX11_way_41 ?_
          refine v_iload_n C dX11_way_42 rfl ?_
          refine v_iadd C dX11_way_43 ?_
          refine v_iaload (ix (5 * a + b)) C (hs.1 87 _ rfl) (at_mulr (k := 5) (n := 5) (m := 5) (wI_at h6 (by decide)) (wI_at h15 (by decide)) (by decide) (by decide) (by decide) (by decide) (by decide)).1 dX11_way_44 ?_
          refine v_istore C dX11_way_45 (Nat.le_of_ble_eq_true rfl) rfl ?_
          refine v_aload_n C dX11_way_47 rfl ?_
          refine v_getR 87 C fl_RX11_131 rfl (hs.1 47 _ rfl) (hs.2 47 54 87 rfl) dX11_way_48 ?_
          refine v_iconst 5 C dX11_way_51 (by decide) ?_
          refine v_iload_n C dX11_way_52 rfl ?_
          refine v_imul C dX11_way_53 ?_
          refine v_iload_n C dX11_way_54 rfl ?_
          refine v_iadd C dX11_way_55 ?_
          refine v_iload_n C dX11_way_56 rfl ?_
          refine v_iastore (ix (5 * a + b)) C (hs.1 87 _ rfl) (at_mulr (k := 5) (n := 5) (m := 5) (wI_at h6 (by decide)) (wI_at h15 (by decide)) (by decide) (by decide) (by decide) (by decide) (by decide)).1 dX11_way_57 ?_
          refine v_iload C dX11_way_58 rfl ?_
          exact v_iret C dX11_way_60 ⟨by first | (simp [wayRm, wayIm, wayOk, *]; done) | (simp [wayRm, wayIm, wayOk, *]; rfl), rfl, by first | (simp [wayRm, wayIm, wayOk, *]; done) | (simp [wayRm, wayIm, wayOk, *]; rfl), rfl, rfl⟩
        · refine v_iconst (-1) C dX11_way_33 (by decide) ?_
          exact v_iret C dX11_way_34 ⟨by first | (simp [wayRm, wayIm, wayOk, *]; done) | (simp [wayRm, wayIm, wayOk, *]; rfl), rfl, by first | (simp [wayRm, wayIm, wayOk, *]; done) | (simp [wayRm, wayIm, wayOk, *]; rfl), rfl, rfl⟩

set_option maxHeartbeats 4000000 in
set_option maxRecDepth 100000 in
theorem c_X11_moved {lnc : Launch} {E : En} {sh : List Sh} {I : IM} {J : JM} {R : RM} {y : Int32} (hs : St sh R) (hy : ¬ wI y 0 (I 47 56 - 1) = 0 → At y 10 (ix y)) : Ct lnc E yX11_moved cX11_moved 2 (some .int) 1 22 [.ref 47, .int y] sh I J R 0 0 (m_ret (some (.int (movedRm I y))) sh I J R) := by
  refine Ct.of (lv := [some (.ref 47), some (.int y)]) (by decide) (Nat.le_of_ble_eq_true rfl) rfl (fun X hX C => ?_)
  refine v_iload_n C dX11_moved_0 rfl ?_
  refine v_iconst 0 C dX11_moved_1 (by decide) ?_
  refine v_aload_n C dX11_moved_2 rfl ?_
  refine v_getI C fl_RX11_241 rfl (hs.1 47 _ rfl) dX11_moved_3 ?_
  refine v_iconst 1 C dX11_moved_6 (by decide) ?_
  refine v_isub C dX11_moved_7 ?_
  refine v_callSi C c_X11_in mt_X11_in lk_RX11_140 rfl rfl rfl rfl rfl dX11_moved_8 ?_
  refine v_if_eq 23 C dX11_moved_11 (by decide) (fun h11 => ?_) (fun h11 => ?_)
  · refine v_iconst (-1) C dX11_moved_23 (by decide) ?_
    exact v_iret C dX11_moved_24 ⟨by simp [movedRm, *], rfl, rfl, rfl, rfl⟩
  · refine v_aload_n C dX11_moved_14 rfl ?_
    refine v_getR 89 C fl_RX11_137 rfl (hs.1 47 _ rfl) (hs.2 47 57 89 rfl) dX11_moved_15 ?_
    refine v_iload_n C dX11_moved_18 rfl ?_
    refine v_iaload (ix y) C (hs.1 89 _ rfl) (hy h11) dX11_moved_19 ?_
    refine v_goto 24 C dX11_moved_20 (by decide) ?_
    exact v_iret C dX11_moved_24 ⟨by simp [movedRm, *], rfl, rfl, rfl, rfl⟩

set_option maxHeartbeats 4000000 in
set_option maxRecDepth 100000 in
theorem c_X11_shifted {lnc : Launch} {E : En} {sh : List Sh} {I : IM} {J : JM} {R : RM} {x : Int32} (hs : St sh R) : Ct lnc E yX11_shifted cX11_shifted 2 (some .int) 1 22 [.ref 47, .int x] sh I J R 0 0 (m_ret (some (.int (shiftedRm I x))) sh I J R) := by
  refine Ct.of (lv := [some (.ref 47), some (.int x)]) (by decide) (Nat.le_of_ble_eq_true rfl) rfl (fun X hX C => ?_)
  refine v_iload_n C dX11_shifted_0 rfl ?_
  refine v_iconst 0 C dX11_shifted_1 (by decide) ?_
  refine v_bipush 6 C dX11_shifted_2 (by decide) ?_
  refine v_callSi C c_X11_in mt_X11_in lk_RX11_140 rfl rfl rfl rfl rfl dX11_shifted_4 ?_
  refine v_if_eq 19 C dX11_shifted_7 (by decide) (fun h7 => ?_) (fun h7 => ?_)
  · refine v_iconst (-1) C dX11_shifted_19 (by decide) ?_
    exact v_iret C dX11_shifted_20 ⟨by simp [shiftedRm, *], rfl, rfl, rfl, rfl⟩
  · refine v_aload_n C dX11_shifted_10 rfl ?_
    refine v_getR 85 C fl_RX11_125 rfl (hs.1 47 _ rfl) (hs.2 47 52 85 rfl) dX11_shifted_11 ?_
    refine v_iload_n C dX11_shifted_14 rfl ?_
    refine v_iaload (ix x) C (hs.1 85 _ rfl) (wI_at h7 (by decide)) dX11_shifted_15 ?_
    refine v_goto 20 C dX11_shifted_16 (by decide) ?_
    exact v_iret C dX11_shifted_20 ⟨by simp [shiftedRm, *], rfl, rfl, rfl, rfl⟩

set_option maxHeartbeats 4000000 in
set_option maxRecDepth 100000 in
theorem c_X11_piece {lnc : Launch} {E : En} {sh : List Sh} {I : IM} {J : JM} {R : RM} {k x : Int32} (hs : St sh R) (hk : ¬ wI k 0 (I 47 27 - 1) = 0 → At k 1000 (ix k)) : Ct lnc E yX11_piece cX11_piece 3 (some .int) 1 22 [.ref 47, .int k, .int x] sh I J R 0 0 (m_ret (some (.int (pieceRm I k x))) sh I J R) := by
  refine Ct.of (lv := [some (.ref 47), some (.int k), some (.int x)]) (by decide) (Nat.le_of_ble_eq_true rfl) rfl (fun X hX C => ?_)
  refine v_iload_n C dX11_piece_0 rfl ?_
  refine v_iconst 0 C dX11_piece_1 (by decide) ?_
  refine v_aload_n C dX11_piece_2 rfl ?_
  refine v_getI C fl_RX11_223 rfl (hs.1 47 _ rfl) dX11_piece_3 ?_
  refine v_iconst 1 C dX11_piece_6 (by decide) ?_
  refine v_isub C dX11_piece_7 ?_
  refine v_callSi C c_X11_in mt_X11_in lk_RX11_140 rfl rfl rfl rfl rfl dX11_piece_8 ?_
  refine v_if_ne 16 C dX11_piece_11 (by decide) (fun h11 => ?_) (fun h11 => ?_)
  · refine v_iload_n C dX11_piece_16 rfl ?_
    rcases sw_split x 6 (by decide) with hsw | ⟨jsw, hjsw, hxsw⟩
    · refine v_tableOut 109 C dX11_piece_17 (sw_out hsw) (by decide) ?_
      refine v_iconst (-1) C dX11_piece_109 (by decide) ?_
      exact v_iret C dX11_piece_110 ⟨by simp only [pieceRm, if_neg h11]; rw [selT_out hsw rfl (by decide)], rfl, rfl, rfl, rfl⟩
    · rcases (show jsw = 0 ∨ jsw = 1 ∨ jsw = 2 ∨ jsw = 3 ∨ jsw = 4 ∨ jsw = 5 ∨ jsw = 6 by omega) with hj | hj | hj | hj | hj | hj | hj
      · have hxe : x = 0 := by rw [hxsw, hj]; rfl
        refine v_tableIn 60 C dX11_piece_17 (by rw [hxe]; decide) (by rw [hxe]; decide) (by rw [hxe]; rfl) (by decide) ?_
        refine v_aload_n C dX11_piece_60 rfl ?_
        refine v_getR 67 C fl_RX11_68 rfl (hs.1 47 _ rfl) (hs.2 47 28 67 rfl) dX11_piece_61 ?_
        refine v_iload_n C dX11_piece_64 rfl ?_
        refine v_iaload (ix k) C (hs.1 67 _ rfl) (hk h11) dX11_piece_65 ?_
        exact v_iret C dX11_piece_66 ⟨by rw [hxe]; simp only [pieceRm, if_neg h11]; rfl, rfl, rfl, rfl, rfl⟩
      · have hxe : x = 1 := by rw [hxsw, hj]; rfl
        refine v_tableIn 67 C dX11_piece_17 (by rw [hxe]; decide) (by rw [hxe]; decide) (by rw [hxe]; rfl) (by decide) ?_
        refine v_aload_n C dX11_piece_67 rfl ?_
        refine v_getR 68 C fl_RX11_71 rfl (hs.1 47 _ rfl) (hs.2 47 29 68 rfl) dX11_piece_68 ?_
        refine v_iload_n C dX11_piece_71 rfl ?_
        refine v_iaload (ix k) C (hs.1 68 _ rfl) (hk h11) dX11_piece_72 ?_
        exact v_iret C dX11_piece_73 ⟨by rw [hxe]; simp only [pieceRm, if_neg h11]; rfl, rfl, rfl, rfl, rfl⟩
      · have hxe : x = 2 := by rw [hxsw, hj]; rfl
        refine v_tableIn 74 C dX11_piece_17 (by rw [hxe]; decide) (by rw [hxe]; decide) (by rw [hxe]; rfl) (by decide) ?_
        refine v_aload_n C dX11_piece_74 rfl ?_
        refine v_getR 69 C fl_RX11_74 rfl (hs.1 47 _ rfl) (hs.2 47 30 69 rfl) dX11_piece_75 ?_
        refine v_iload_n C dX11_piece_78 rfl ?_
        refine v_iaload (ix k) C (hs.1 69 _ rfl) (hk h11) dX11_piece_79 ?_
        exact v_iret C dX11_piece_80 ⟨by rw [hxe]; simp only [pieceRm, if_neg h11]; rfl, rfl, rfl, rfl, rfl⟩
      · have hxe : x = 3 := by rw [hxsw, hj]; rfl
        refine v_tableIn 81 C dX11_piece_17 (by rw [hxe]; decide) (by rw [hxe]; decide) (by rw [hxe]; rfl) (by decide) ?_
        refine v_aload_n C dX11_piece_81 rfl ?_
        refine v_getR 70 C fl_RX11_77 rfl (hs.1 47 _ rfl) (hs.2 47 31 70 rfl) dX11_piece_82 ?_
        refine v_iload_n C dX11_piece_85 rfl ?_
        refine v_iaload (ix k) C (hs.1 70 _ rfl) (hk h11) dX11_piece_86 ?_
        exact v_iret C dX11_piece_87 ⟨by rw [hxe]; simp only [pieceRm, if_neg h11]; rfl, rfl, rfl, rfl, rfl⟩
      · have hxe : x = 4 := by rw [hxsw, hj]; rfl
        refine v_tableIn 88 C dX11_piece_17 (by rw [hxe]; decide) (by rw [hxe]; decide) (by rw [hxe]; rfl) (by decide) ?_
        refine v_aload_n C dX11_piece_88 rfl ?_
        refine v_getR 71 C fl_RX11_80 rfl (hs.1 47 _ rfl) (hs.2 47 32 71 rfl) dX11_piece_89 ?_
        refine v_iload_n C dX11_piece_92 rfl ?_
        refine v_iaload (ix k) C (hs.1 71 _ rfl) (hk h11) dX11_piece_93 ?_
        exact v_iret C dX11_piece_94 ⟨by rw [hxe]; simp only [pieceRm, if_neg h11]; rfl, rfl, rfl, rfl, rfl⟩
      · have hxe : x = 5 := by rw [hxsw, hj]; rfl
        refine v_tableIn 95 C dX11_piece_17 (by rw [hxe]; decide) (by rw [hxe]; decide) (by rw [hxe]; rfl) (by decide) ?_
        refine v_aload_n C dX11_piece_95 rfl ?_
        refine v_getR 72 C fl_RX11_83 rfl (hs.1 47 _ rfl) (hs.2 47 33 72 rfl) dX11_piece_96 ?_
        refine v_iload_n C dX11_piece_99 rfl ?_
        refine v_iaload (ix k) C (hs.1 72 _ rfl) (hk h11) dX11_piece_100 ?_
        exact v_iret C dX11_piece_101 ⟨by rw [hxe]; simp only [pieceRm, if_neg h11]; rfl, rfl, rfl, rfl, rfl⟩
      · have hxe : x = 6 := by rw [hxsw, hj]; rfl
        refine v_tableIn 102 C dX11_piece_17 (by rw [hxe]; decide) (by rw [hxe]; decide) (by rw [hxe]; rfl) (by decide) ?_
        refine v_aload_n C dX11_piece_102 rfl ?_
        refine v_getR 73 C fl_RX11_86 rfl (hs.1 47 _ rfl) (hs.2 47 34 73 rfl) dX11_piece_103 ?_
        refine v_iload_n C dX11_piece_106 rfl ?_
        refine v_iaload (ix k) C (hs.1 73 _ rfl) (hk h11) dX11_piece_107 ?_
        exact v_iret C dX11_piece_108 ⟨by rw [hxe]; simp only [pieceRm, if_neg h11]; rfl, rfl, rfl, rfl, rfl⟩
  · refine v_iconst (-1) C dX11_piece_14 (by decide) ?_
    exact v_iret C dX11_piece_15 ⟨by simp [pieceRm, *], rfl, rfl, rfl, rfl⟩

set_option maxHeartbeats 4000000 in
set_option maxRecDepth 100000 in
theorem c_X11_isOf {lnc : Launch} {E : En} {sh : List Sh} {I : IM} {J : JM} {R : RM} {k w : Int32} {j : Nat} (hs : St sh R) (hj : At k 5 j) : Ct lnc E yX11_isOf cX11_isOf 3 (some .boolean) 0 0 [.ref 47, .int k, .int w] sh I J R 0 0 (m_ret (some (.int (isOfF (I 58 j) (I 62 j) w))) sh I J R) := by
  refine Ct.of (lv := [some (.ref 47), some (.int k), some (.int w)]) (by decide) (Nat.le_of_ble_eq_true rfl) rfl (fun X hX C => ?_)
  refine v_aload_n C dX11_isOf_0 rfl ?_
  refine v_getR 58 C fl_RX11_40 rfl (hs.1 47 _ rfl) (hs.2 47 18 58 rfl) dX11_isOf_1 ?_
  refine v_iload_n C dX11_isOf_4 rfl ?_
  refine v_zaload j C (hs.1 58 _ rfl) hj dX11_isOf_5 ?_
  refine v_if_eq 33 C dX11_isOf_6 (by decide) (fun h6 => ?_) (fun h6 => ?_)
  · refine v_iconst 0 C dX11_isOf_33 (by decide) ?_
    exact v_zret C (Or.inl rfl) dX11_isOf_34 ⟨by simp [isOfF, *], rfl, rfl, rfl, rfl⟩
  · refine v_aload_n C dX11_isOf_9 rfl ?_
    refine v_getR 62 C fl_RX11_53 rfl (hs.1 47 _ rfl) (hs.2 47 22 62 rfl) dX11_isOf_10 ?_
    refine v_iload_n C dX11_isOf_13 rfl ?_
    refine v_iaload j C (hs.1 62 _ rfl) hj dX11_isOf_14 ?_
    refine v_iconst (-1) C dX11_isOf_15 (by decide) ?_
    refine v_icmp_eq 29 C dX11_isOf_16 (by decide) (fun h16 => ?_) (fun h16 => ?_)
    · refine v_iconst 1 C dX11_isOf_29 (by decide) ?_
      refine v_goto 34 C dX11_isOf_30 (by decide) ?_
      exact v_zret C (Or.inr rfl) dX11_isOf_34 ⟨by simp [isOfF, *], rfl, rfl, rfl, rfl⟩
    · refine v_aload_n C dX11_isOf_19 rfl ?_
      refine v_getR 62 C fl_RX11_53 rfl (hs.1 47 _ rfl) (hs.2 47 22 62 rfl) dX11_isOf_20 ?_
      refine v_iload_n C dX11_isOf_23 rfl ?_
      refine v_iaload j C (hs.1 62 _ rfl) hj dX11_isOf_24 ?_
      refine v_iload_n C dX11_isOf_25 rfl ?_
      refine v_icmp_ne 33 C dX11_isOf_26 (by decide) (fun h26 => ?_) (fun h26 => ?_)
      · refine v_iconst 0 C dX11_isOf_33 (by decide) ?_
        exact v_zret C (Or.inl rfl) dX11_isOf_34 ⟨by simp [isOfF, *], rfl, rfl, rfl, rfl⟩
      · refine v_iconst 1 C dX11_isOf_29 (by decide) ?_
        refine v_goto 34 C dX11_isOf_30 (by decide) ?_
        exact v_zret C (Or.inr rfl) dX11_isOf_34 ⟨by simp [isOfF, *], rfl, rfl, rfl, rfl⟩

set_option maxHeartbeats 4000000 in
set_option maxRecDepth 100000 in
theorem c_X11_count {lnc : Launch} {E : En} {sh : List Sh} {I : IM} {J : JM} {R : RM} {x : Int32} (hs : St sh R) (hsite : At (I 47 1) 5 (ix (I 47 1))) : Ct lnc E yX11_count cX11_count 2 (some .int) 1 22 [.ref 47, .int x] sh I J R 0 0 (m_ret (some (.int (countRm I x))) sh I J R) := by
  refine Ct.of (lv := [some (.ref 47), some (.int x)]) (by decide) (Nat.le_of_ble_eq_true rfl) rfl (fun X hX C => ?_)
  refine v_iload_n C dX11_count_0 rfl ?_
  rcases sw_split x 9 (by decide) with hsw | ⟨jsw, hjsw, hxsw⟩
  · refine v_tableOut 111 C dX11_count_1 (sw_out hsw) (by decide) ?_
    refine v_iload_n C dX11_count_111 rfl ?_
    refine v_bipush 10 C dX11_count_112 (by decide) ?_
    refine v_bipush 12 C dX11_count_114 (by decide) ?_
    refine v_callSi C c_X11_in mt_X11_in lk_RX11_140 rfl rfl rfl rfl rfl dX11_count_116 ?_
    refine v_if_eq 132 C dX11_count_119 (by decide) (fun h119 => ?_) (fun h119 => ?_)
    · refine v_iload_n C dX11_count_132 rfl ?_
      refine v_bipush 20 C dX11_count_133 (by decide) ?_
      refine v_bipush 23 C dX11_count_135 (by decide) ?_
      refine v_callSi C c_X11_in mt_X11_in lk_RX11_140 rfl rfl rfl rfl rfl dX11_count_137 ?_
      refine v_if_eq 153 C dX11_count_140 (by decide) (fun h140 => ?_) (fun h140 => ?_)
      · refine v_iload_n C dX11_count_153 rfl ?_
        refine v_bipush 30 C dX11_count_154 (by decide) ?_
        refine v_bipush 34 C dX11_count_156 (by decide) ?_
        refine v_callSi C c_X11_in mt_X11_in lk_RX11_140 rfl rfl rfl rfl rfl dX11_count_158 ?_
        refine v_if_eq 176 C dX11_count_161 (by decide) (fun h161 => ?_) (fun h161 => ?_)
        · refine v_iconst (-1) C dX11_count_176 (by decide) ?_
          exact v_iret C dX11_count_177 ⟨by simp only [countRm]; rw [if_pos (show x < 0 ∨ 9 < x from hsw)]; simp [*], rfl, rfl, rfl, rfl⟩
        · refine v_aload_n C dX11_count_164 rfl ?_
          refine v_getR 65 C fl_RX11_62 rfl (hs.1 47 _ rfl) (hs.2 47 25 65 rfl) dX11_count_165 ?_
          refine v_iload_n C dX11_count_168 rfl ?_
          refine v_bipush 30 C dX11_count_169 (by decide) ?_
          refine v_isub C dX11_count_171 ?_
          refine v_iaload (ix (x - 30)) C (hs.1 65 _ rfl) (wI_off h161 (by decide) (by decide)) dX11_count_172 ?_
          refine v_goto 177 C dX11_count_173 (by decide) ?_
          exact v_iret C dX11_count_177 ⟨by simp only [countRm]; rw [if_pos (show x < 0 ∨ 9 < x from hsw)]; simp [*], rfl, rfl, rfl, rfl⟩
      · refine v_aload_n C dX11_count_143 rfl ?_
        refine v_getR 66 C fl_RX11_65 rfl (hs.1 47 _ rfl) (hs.2 47 26 66 rfl) dX11_count_144 ?_
        refine v_iload_n C dX11_count_147 rfl ?_
        refine v_bipush 20 C dX11_count_148 (by decide) ?_
        refine v_isub C dX11_count_150 ?_
        refine v_iaload (ix (x - 20)) C (hs.1 66 _ rfl) (wI_off h140 (by decide) (by decide)) dX11_count_151 ?_
        exact v_iret C dX11_count_152 ⟨by simp only [countRm]; rw [if_pos (show x < 0 ∨ 9 < x from hsw)]; simp [*], rfl, rfl, rfl, rfl⟩
    · refine v_aload_n C dX11_count_122 rfl ?_
      refine v_getR 76 C fl_RX11_95 rfl (hs.1 47 _ rfl) (hs.2 47 37 76 rfl) dX11_count_123 ?_
      refine v_iload_n C dX11_count_126 rfl ?_
      refine v_bipush 10 C dX11_count_127 (by decide) ?_
      refine v_isub C dX11_count_129 ?_
      refine v_iaload (ix (x - 10)) C (hs.1 76 _ rfl) (wI_off h119 (by decide) (by decide)) dX11_count_130 ?_
      exact v_iret C dX11_count_131 ⟨by simp only [countRm]; rw [if_pos (show x < 0 ∨ 9 < x from hsw)]; simp [*], rfl, rfl, rfl, rfl⟩
  · rcases (show jsw = 0 ∨ jsw = 1 ∨ jsw = 2 ∨ jsw = 3 ∨ jsw = 4 ∨ jsw = 5 ∨ jsw = 6 ∨ jsw = 7 ∨ jsw = 8 ∨ jsw = 9 by omega) with hj | hj | hj | hj | hj | hj | hj | hj | hj | hj
    · have hxe : x = 0 := by rw [hxsw, hj]; rfl
      refine v_tableIn 56 C dX11_count_1 (by rw [hxe]; decide) (by rw [hxe]; decide) (by rw [hxe]; rfl) (by decide) ?_
      refine v_aload_n C dX11_count_56 rfl ?_
      refine v_getI C fl_RX11_144 rfl (hs.1 47 _ rfl) dX11_count_57 ?_
      exact v_iret C dX11_count_60 ⟨by rw [hxe]; rfl, rfl, rfl, rfl, rfl⟩
    · have hxe : x = 1 := by rw [hxsw, hj]; rfl
      refine v_tableIn 61 C dX11_count_1 (by rw [hxe]; decide) (by rw [hxe]; decide) (by rw [hxe]; rfl) (by decide) ?_
      refine v_aload_n C dX11_count_61 rfl ?_
      refine v_getI C fl_RX11_160 rfl (hs.1 47 _ rfl) dX11_count_62 ?_
      exact v_iret C dX11_count_65 ⟨by rw [hxe]; rfl, rfl, rfl, rfl, rfl⟩
    · have hxe : x = 2 := by rw [hxsw, hj]; rfl
      refine v_tableIn 66 C dX11_count_1 (by rw [hxe]; decide) (by rw [hxe]; decide) (by rw [hxe]; rfl) (by decide) ?_
      refine v_aload_n C dX11_count_66 rfl ?_
      refine v_getI C fl_RX11_151 rfl (hs.1 47 _ rfl) dX11_count_67 ?_
      exact v_iret C dX11_count_70 ⟨by rw [hxe]; rfl, rfl, rfl, rfl, rfl⟩
    · have hxe : x = 3 := by rw [hxsw, hj]; rfl
      refine v_tableIn 71 C dX11_count_1 (by rw [hxe]; decide) (by rw [hxe]; decide) (by rw [hxe]; rfl) (by decide) ?_
      refine v_aload_n C dX11_count_71 rfl ?_
      refine v_getI C fl_RX11_148 rfl (hs.1 47 _ rfl) dX11_count_72 ?_
      exact v_iret C dX11_count_75 ⟨by rw [hxe]; rfl, rfl, rfl, rfl, rfl⟩
    · have hxe : x = 4 := by rw [hxsw, hj]; rfl
      refine v_tableIn 76 C dX11_count_1 (by rw [hxe]; decide) (by rw [hxe]; decide) (by rw [hxe]; rfl) (by decide) ?_
      refine v_aload_n C dX11_count_76 rfl ?_
      refine v_getR 49 C fl_RX11_13 rfl (hs.1 47 _ rfl) (hs.2 47 7 49 rfl) dX11_count_77 ?_
      refine v_aload_n C dX11_count_80 rfl ?_
      refine v_getI C fl_RX11_148 rfl (hs.1 47 _ rfl) dX11_count_81 ?_
      refine v_iaload (ix (I 47 1)) C (hs.1 49 _ rfl) hsite dX11_count_84 ?_
      exact v_iret C dX11_count_85 ⟨by rw [hxe]; rfl, rfl, rfl, rfl, rfl⟩
    · have hxe : x = 5 := by rw [hxsw, hj]; rfl
      refine v_tableIn 86 C dX11_count_1 (by rw [hxe]; decide) (by rw [hxe]; decide) (by rw [hxe]; rfl) (by decide) ?_
      refine v_aload_n C dX11_count_86 rfl ?_
      refine v_getI C fl_RX11_213 rfl (hs.1 47 _ rfl) dX11_count_87 ?_
      exact v_iret C dX11_count_90 ⟨by rw [hxe]; rfl, rfl, rfl, rfl, rfl⟩
    · have hxe : x = 6 := by rw [hxsw, hj]; rfl
      refine v_tableIn 91 C dX11_count_1 (by rw [hxe]; decide) (by rw [hxe]; decide) (by rw [hxe]; rfl) (by decide) ?_
      refine v_aload_n C dX11_count_91 rfl ?_
      refine v_getI C fl_RX11_210 rfl (hs.1 47 _ rfl) dX11_count_92 ?_
      exact v_iret C dX11_count_95 ⟨by rw [hxe]; rfl, rfl, rfl, rfl, rfl⟩
    · have hxe : x = 7 := by rw [hxsw, hj]; rfl
      refine v_tableIn 96 C dX11_count_1 (by rw [hxe]; decide) (by rw [hxe]; decide) (by rw [hxe]; rfl) (by decide) ?_
      refine v_aload_n C dX11_count_96 rfl ?_
      refine v_getI C fl_RX11_223 rfl (hs.1 47 _ rfl) dX11_count_97 ?_
      exact v_iret C dX11_count_100 ⟨by rw [hxe]; rfl, rfl, rfl, rfl, rfl⟩
    · have hxe : x = 8 := by rw [hxsw, hj]; rfl
      refine v_tableIn 101 C dX11_count_1 (by rw [hxe]; decide) (by rw [hxe]; decide) (by rw [hxe]; rfl) (by decide) ?_
      refine v_aload_n C dX11_count_101 rfl ?_
      refine v_getI C fl_RX11_163 rfl (hs.1 47 _ rfl) dX11_count_102 ?_
      exact v_iret C dX11_count_105 ⟨by rw [hxe]; rfl, rfl, rfl, rfl, rfl⟩
    · have hxe : x = 9 := by rw [hxsw, hj]; rfl
      refine v_tableIn 106 C dX11_count_1 (by rw [hxe]; decide) (by rw [hxe]; decide) (by rw [hxe]; rfl) (by decide) ?_
      refine v_aload_n C dX11_count_106 rfl ?_
      refine v_getI C fl_RX11_204 rfl (hs.1 47 _ rfl) dX11_count_107 ?_
      exact v_iret C dX11_count_110 ⟨by rw [hxe]; rfl, rfl, rfl, rfl, rfl⟩
