set_option maxHeartbeats 4000000 in
set_option maxRecDepth 100000 in
theorem c_X10_allEmpty {lnc : Launch} {E : En} {sh : List Sh} {I : IM} {J : JM} {R : RM} (hs : St sh R) : Ct lnc E yX10_allEmpty cX10_allEmpty 2 (some .boolean) 1 20 [.ref 0] sh I J R 0 0 (m_ret (some (.int (allE I))) sh I J R) := by
  refine Ct.of (lv := [some (.ref 0), none]) (by decide) (Nat.le_of_ble_eq_true rfl) rfl (fun X hX C => ?_)
  refine v_iconst 0 C dX10_allEmpty_0 (by decide) ?_
  refine v_istore_n C dX10_allEmpty_1 (Nat.le_of_ble_eq_true rfl) rfl ?_
  refine v_iload_n C dX10_allEmpty_2 rfl ?_
  refine v_bipush 6 C dX10_allEmpty_3 (by decide) ?_
  refine v_icmp_ge 28 C dX10_allEmpty_5 (by decide) (fun h5 => absurd h5 (by decide)) (fun _ => ?_)
  refine v_aload_n C dX10_allEmpty_8 rfl ?_
  refine v_getR 17 C fl_RX10_39 rfl (hs.1 0 _ rfl) (hs.2 0 4 17 rfl) dX10_allEmpty_9 ?_
  refine v_iload_n C dX10_allEmpty_12 rfl ?_
  refine v_aaload 0 C (hs.1 17 _ rfl) (cn := RX7) ⟨rfl, by decide, by decide⟩ (at_c rfl) (hs.2 17 0 18 rfl) dX10_allEmpty_13 ?_
  refine v_callVi C (c_X7_isEmpty (hs.1 18 _ rfl)) mt_X7_isEmpty lk_RX10_150 rfl rfl (hs.1 18 _ rfl) rfl rfl rfl rfl rfl dX10_allEmpty_14 ?_
  refine v_if_ne 22 C dX10_allEmpty_17 (by decide) (fun h17 => ?_) (fun h17 => ?_)
  · refine v_iinc 1 C dX10_allEmpty_22 rfl (by decide) (Nat.le_of_ble_eq_true rfl) rfl ?_
    refine v_goto 2 C dX10_allEmpty_25 (by decide) ?_
    refine v_iload_n C dX10_allEmpty_2 rfl ?_
    refine v_bipush 6 C dX10_allEmpty_3 (by decide) ?_
    refine v_icmp_ge 28 C dX10_allEmpty_5 (by decide) (fun h5 => absurd h5 (by decide)) (fun _ => ?_)
    refine v_aload_n C dX10_allEmpty_8 rfl ?_
    refine v_getR 17 C fl_RX10_39 rfl (hs.1 0 _ rfl) (hs.2 0 4 17 rfl) dX10_allEmpty_9 ?_
    refine v_iload_n C dX10_allEmpty_12 rfl ?_
    refine v_aaload 1 C (hs.1 17 _ rfl) (cn := RX7) ⟨rfl, by decide, by decide⟩ (at_c rfl) (hs.2 17 1 19 rfl) dX10_allEmpty_13 ?_
    refine v_callVi C (c_X7_isEmpty (hs.1 19 _ rfl)) mt_X7_isEmpty lk_RX10_150 rfl rfl (hs.1 19 _ rfl) rfl rfl rfl rfl rfl dX10_allEmpty_14 ?_
    refine v_if_ne 22 C dX10_allEmpty_17 (by decide) (fun h17 => ?_) (fun h17 => ?_)
    · refine v_iinc 2 C dX10_allEmpty_22 rfl (by decide) (Nat.le_of_ble_eq_true rfl) rfl ?_
      refine v_goto 2 C dX10_allEmpty_25 (by decide) ?_
      refine v_iload_n C dX10_allEmpty_2 rfl ?_
      refine v_bipush 6 C dX10_allEmpty_3 (by decide) ?_
      refine v_icmp_ge 28 C dX10_allEmpty_5 (by decide) (fun h5 => absurd h5 (by decide)) (fun _ => ?_)
      refine v_aload_n C dX10_allEmpty_8 rfl ?_
      refine v_getR 17 C fl_RX10_39 rfl (hs.1 0 _ rfl) (hs.2 0 4 17 rfl) dX10_allEmpty_9 ?_
      refine v_iload_n C dX10_allEmpty_12 rfl ?_
      refine v_aaload 2 C (hs.1 17 _ rfl) (cn := RX7) ⟨rfl, by decide, by decide⟩ (at_c rfl) (hs.2 17 2 20 rfl) dX10_allEmpty_13 ?_
      refine v_callVi C (c_X7_isEmpty (hs.1 20 _ rfl)) mt_X7_isEmpty lk_RX10_150 rfl rfl (hs.1 20 _ rfl) rfl rfl rfl rfl rfl dX10_allEmpty_14 ?_
      refine v_if_ne 22 C dX10_allEmpty_17 (by decide) (fun h17 => ?_) (fun h17 => ?_)
      · refine v_iinc 3 C dX10_allEmpty_22 rfl (by decide) (Nat.le_of_ble_eq_true rfl) rfl ?_
        refine v_goto 2 C dX10_allEmpty_25 (by decide) ?_
        refine v_iload_n C dX10_allEmpty_2 rfl ?_
        refine v_bipush 6 C dX10_allEmpty_3 (by decide) ?_
        refine v_icmp_ge 28 C dX10_allEmpty_5 (by decide) (fun h5 => absurd h5 (by decide)) (fun _ => ?_)
        refine v_aload_n C dX10_allEmpty_8 rfl ?_
        refine v_getR 17 C fl_RX10_39 rfl (hs.1 0 _ rfl) (hs.2 0 4 17 rfl) dX10_allEmpty_9 ?_
        refine v_iload_n C dX10_allEmpty_12 rfl ?_
        refine v_aaload 3 C (hs.1 17 _ rfl) (cn := RX7) ⟨rfl, by decide, by decide⟩ (at_c rfl) (hs.2 17 3 21 rfl) dX10_allEmpty_13 ?_
        refine v_callVi C (c_X7_isEmpty (hs.1 21 _ rfl)) mt_X7_isEmpty lk_RX10_150 rfl rfl (hs.1 21 _ rfl) rfl rfl rfl rfl rfl dX10_allEmpty_14 ?_
        refine v_if_ne 22 C dX10_allEmpty_17 (by decide) (fun h17 => ?_) (fun h17 => ?_)
        · refine v_iinc 4 C dX10_allEmpty_22 rfl (by decide) (Nat.le_of_ble_eq_true rfl) rfl ?_
          refine v_goto 2 C dX10_allEmpty_25 (by decide) ?_
          refine v_iload_n C dX10_allEmpty_2 rfl ?_
          refine v_bipush 6 C dX10_allEmpty_3 (by decide) ?_
          refine v_icmp_ge 28 C dX10_allEmpty_5 (by decide) (fun h5 => absurd h5 (by decide)) (fun _ => ?_)
          refine v_aload_n C dX10_allEmpty_8 rfl ?_
          refine v_getR 17 C fl_RX10_39 rfl (hs.1 0 _ rfl) (hs.2 0 4 17 rfl) dX10_allEmpty_9 ?_
          refine v_iload_n C dX10_allEmpty_12 rfl ?_
          refine v_aaload 4 C (hs.1 17 _ rfl) (cn := RX7) ⟨rfl, by decide, by decide⟩ (at_c rfl) (hs.2 17 4 22 rfl) dX10_allEmpty_13 ?_
          refine v_callVi C (c_X7_isEmpty (hs.1 22 _ rfl)) mt_X7_isEmpty lk_RX10_150 rfl rfl (hs.1 22 _ rfl) rfl rfl rfl rfl rfl dX10_allEmpty_14 ?_
          refine v_if_ne 22 C dX10_allEmpty_17 (by decide) (fun h17 => ?_) (fun h17 => ?_)
          · refine v_iinc 5 C dX10_allEmpty_22 rfl (by decide) (Nat.le_of_ble_eq_true rfl) rfl ?_
            refine v_goto 2 C dX10_allEmpty_25 (by decide) ?_
            refine v_iload_n C dX10_allEmpty_2 rfl ?_
            refine v_bipush 6 C dX10_allEmpty_3 (by decide) ?_
            refine v_icmp_ge 28 C dX10_allEmpty_5 (by decide) (fun h5 => absurd h5 (by decide)) (fun _ => ?_)
            refine v_aload_n C dX10_allEmpty_8 rfl ?_
            refine v_getR 17 C fl_RX10_39 rfl (hs.1 0 _ rfl) (hs.2 0 4 17 rfl) dX10_allEmpty_9 ?_
            refine v_iload_n C dX10_allEmpty_12 rfl ?_
            refine v_aaload 5 C (hs.1 17 _ rfl) (cn := RX7) ⟨rfl, by decide, by decide⟩ (at_c rfl) (hs.2 17 5 23 rfl) dX10_allEmpty_13 ?_
            refine v_callVi C (c_X7_isEmpty (hs.1 23 _ rfl)) mt_X7_isEmpty lk_RX10_150 rfl rfl (hs.1 23 _ rfl) rfl rfl rfl rfl rfl dX10_allEmpty_14 ?_
            refine v_if_ne 22 C dX10_allEmpty_17 (by decide) (fun h17 => ?_) (fun h17 => ?_)
            · refine v_iinc 6 C dX10_allEmpty_22 rfl (by decide) (Nat.le_of_ble_eq_true rfl) rfl ?_
              refine v_goto 2 C dX10_allEmpty_25 (by decide) ?_
              refine v_iload_n C dX10_allEmpty_2 rfl ?_
              refine v_bipush 6 C dX10_allEmpty_3 (by decide) ?_
              refine v_icmp_ge 28 C dX10_allEmpty_5 (by decide) (fun _ => ?_) (fun h5 => absurd h5 (by decide))
              refine v_iconst 0 C dX10_allEmpty_28 (by decide) ?_
              refine v_istore_n C dX10_allEmpty_29 (Nat.le_of_ble_eq_true rfl) rfl ?_
              refine v_iload_n C dX10_allEmpty_30 rfl ?_
              refine v_iconst 3 C dX10_allEmpty_31 (by decide) ?_
              refine v_icmp_ge 55 C dX10_allEmpty_32 (by decide) (fun h32 => absurd h32 (by decide)) (fun _ => ?_)
              refine v_aload_n C dX10_allEmpty_35 rfl ?_
              refine v_getR 30 C fl_RX10_53 rfl (hs.1 0 _ rfl) (hs.2 0 6 30 rfl) dX10_allEmpty_36 ?_
              refine v_iload_n C dX10_allEmpty_39 rfl ?_
              refine v_aaload 0 C (hs.1 30 _ rfl) (cn := RX0) ⟨rfl, by decide, by decide⟩ (at_c rfl) (hs.2 30 0 31 rfl) dX10_allEmpty_40 ?_
              refine v_getI C fl_RX10_207 rfl (hs.1 31 _ rfl) dX10_allEmpty_41 ?_
              refine v_if_le 49 C dX10_allEmpty_44 (by decide) (fun h44 => ?_) (fun h44 => ?_)
              · refine v_iinc 1 C dX10_allEmpty_49 rfl (by decide) (Nat.le_of_ble_eq_true rfl) rfl ?_
                refine v_goto 30 C dX10_allEmpty_52 (by decide) ?_
                refine v_iload_n C dX10_allEmpty_30 rfl ?_
                refine v_iconst 3 C dX10_allEmpty_31 (by decide) ?_
                refine v_icmp_ge 55 C dX10_allEmpty_32 (by decide) (fun h32 => absurd h32 (by decide)) (fun _ => ?_)
                refine v_aload_n C dX10_allEmpty_35 rfl ?_
                refine v_getR 30 C fl_RX10_53 rfl (hs.1 0 _ rfl) (hs.2 0 6 30 rfl) dX10_allEmpty_36 ?_
                refine v_iload_n C dX10_allEmpty_39 rfl ?_
                refine v_aaload 1 C (hs.1 30 _ rfl) (cn := RX0) ⟨rfl, by decide, by decide⟩ (at_c rfl) (hs.2 30 1 33 rfl) dX10_allEmpty_40 ?_
                refine v_getI C fl_RX10_207 rfl (hs.1 33 _ rfl) dX10_allEmpty_41 ?_
                refine v_if_le 49 C dX10_allEmpty_44 (by decide) (fun h44 => ?_) (fun h44 => ?_)
                · refine v_iinc 2 C dX10_allEmpty_49 rfl (by decide) (Nat.le_of_ble_eq_true rfl) rfl ?_
                  refine v_goto 30 C dX10_allEmpty_52 (by decide) ?_
                  refine v_iload_n C dX10_allEmpty_30 rfl ?_
                  refine v_iconst 3 C dX10_allEmpty_31 (by decide) ?_
                  refine v_icmp_ge 55 C dX10_allEmpty_32 (by decide) (fun h32 => absurd h32 (by decide)) (fun _ => ?_)
                  refine v_aload_n C dX10_allEmpty_35 rfl ?_
                  refine v_getR 30 C fl_RX10_53 rfl (hs.1 0 _ rfl) (hs.2 0 6 30 rfl) dX10_allEmpty_36 ?_
                  refine v_iload_n C dX10_allEmpty_39 rfl ?_
                  refine v_aaload 2 C (hs.1 30 _ rfl) (cn := RX0) ⟨rfl, by decide, by decide⟩ (at_c rfl) (hs.2 30 2 35 rfl) dX10_allEmpty_40 ?_
                  refine v_getI C fl_RX10_207 rfl (hs.1 35 _ rfl) dX10_allEmpty_41 ?_
                  refine v_if_le 49 C dX10_allEmpty_44 (by decide) (fun h44 => ?_) (fun h44 => ?_)
                  · refine v_iinc 3 C dX10_allEmpty_49 rfl (by decide) (Nat.le_of_ble_eq_true rfl) rfl ?_
                    refine v_goto 30 C dX10_allEmpty_52 (by decide) ?_
                    refine v_iload_n C dX10_allEmpty_30 rfl ?_
                    refine v_iconst 3 C dX10_allEmpty_31 (by decide) ?_
                    refine v_icmp_ge 55 C dX10_allEmpty_32 (by decide) (fun _ => ?_) (fun h32 => absurd h32 (by decide))
                    refine v_iconst 1 C dX10_allEmpty_55 (by decide) ?_
                    exact v_zret C (Or.inr rfl) dX10_allEmpty_56 ⟨by simp [allE, *], rfl, rfl, rfl, rfl⟩
                  · refine v_iconst 0 C dX10_allEmpty_47 (by decide) ?_
                    exact v_zret C (Or.inl rfl) dX10_allEmpty_48 ⟨by simp [allE, *], rfl, rfl, rfl, rfl⟩
                · refine v_iconst 0 C dX10_allEmpty_47 (by decide) ?_
                  exact v_zret C (Or.inl rfl) dX10_allEmpty_48 ⟨by simp [allE, *], rfl, rfl, rfl, rfl⟩
              · refine v_iconst 0 C dX10_allEmpty_47 (by decide) ?_
                exact v_zret C (Or.inl rfl) dX10_allEmpty_48 ⟨by simp [allE, *], rfl, rfl, rfl, rfl⟩
            · refine v_iconst 0 C dX10_allEmpty_20 (by decide) ?_
              exact v_zret C (Or.inl rfl) dX10_allEmpty_21 ⟨by simp [allE, *], rfl, rfl, rfl, rfl⟩
          · refine v_iconst 0 C dX10_allEmpty_20 (by decide) ?_
            exact v_zret C (Or.inl rfl) dX10_allEmpty_21 ⟨by simp [allE, *], rfl, rfl, rfl, rfl⟩
        · refine v_iconst 0 C dX10_allEmpty_20 (by decide) ?_
          exact v_zret C (Or.inl rfl) dX10_allEmpty_21 ⟨by simp [allE, *], rfl, rfl, rfl, rfl⟩
      · refine v_iconst 0 C dX10_allEmpty_20 (by decide) ?_
        exact v_zret C (Or.inl rfl) dX10_allEmpty_21 ⟨by simp [allE, *], rfl, rfl, rfl, rfl⟩
    · refine v_iconst 0 C dX10_allEmpty_20 (by decide) ?_
      exact v_zret C (Or.inl rfl) dX10_allEmpty_21 ⟨by simp [allE, *], rfl, rfl, rfl, rfl⟩
  · refine v_iconst 0 C dX10_allEmpty_20 (by decide) ?_
    exact v_zret C (Or.inl rfl) dX10_allEmpty_21 ⟨by simp [allE, *], rfl, rfl, rfl, rfl⟩

set_option maxHeartbeats 4000000 in
set_option maxRecDepth 100000 in
theorem c_X10_go {lnc : Launch} {E : En} {sh : List Sh} {I : IM} {J : JM} {R : RM} {s : Int32} (hs : St sh R) : Ct lnc E yX10_go cX10_go 2 (some .boolean) 2 41 [.ref 0, .int s] sh I J R 0 0 (m_ret (some (.int (goR I s))) sh (goI I s) J R) := by
  refine Ct.of (lv := [some (.ref 0), some (.int s)]) (by decide) (Nat.le_of_ble_eq_true rfl) rfl (fun X hX C => ?_)
  refine v_iload_n C dX10_go_0 rfl ?_
  refine v_iconst 0 C dX10_go_1 (by decide) ?_
  refine v_iconst 4 C dX10_go_2 (by decide) ?_
  refine v_callSi C c_X10_within mt_X10_within lk_RX10_88 rfl rfl rfl rfl rfl dX10_go_3 ?_
  refine v_if_eq 34 C dX10_go_6 (by decide) (fun h6 => ?_) (fun h6 => ?_)
  · refine v_iconst 0 C dX10_go_34 (by decide) ?_
    exact v_zret C (Or.inl rfl) dX10_go_35 ⟨by simp [goR, goI, *], rfl, by simp [goR, goI, *], rfl, rfl⟩
  · refine v_iload_n C dX10_go_9 rfl ?_
    refine v_aload_n C dX10_go_10 rfl ?_
    refine v_getR 1 C fl_RX10_10 rfl (hs.1 0 _ rfl) (hs.2 0 0 1 rfl) dX10_go_11 ?_
    refine v_getI C fl_RX10_112 rfl (hs.1 1 _ rfl) dX10_go_14 ?_
    refine v_icmp_eq 34 C dX10_go_17 (by decide) (fun h17 => ?_) (fun h17 => ?_)
    · refine v_iconst 0 C dX10_go_34 (by decide) ?_
      exact v_zret C (Or.inl rfl) dX10_go_35 ⟨by simp [goR, goI, *], rfl, by simp [goR, goI, *], rfl, rfl⟩
    · refine v_aload_n C dX10_go_20 rfl ?_
      refine v_callVi C (c_X10_atEnd (hs.1 0 _ rfl)) mt_X10_atEnd lk_RX10_96 rfl rfl (hs.1 0 _ rfl) rfl rfl rfl rfl rfl dX10_go_21 ?_
      refine v_if_ne 34 C dX10_go_24 (by decide) (fun h24 => ?_) (fun h24 => ?_)
      · refine v_iconst 0 C dX10_go_34 (by decide) ?_
        exact v_zret C (Or.inl rfl) dX10_go_35 ⟨by simp [goR, goI, *], rfl, by simp [goR, goI, *], rfl, rfl⟩
      · refine v_aload_n C dX10_go_27 rfl ?_
        refine v_callVi C (c_X10_allEmpty hs) mt_X10_allEmpty lk_RX10_115 rfl rfl (hs.1 0 _ rfl) rfl rfl rfl rfl rfl dX10_go_28 ?_
        refine v_if_ne 36 C dX10_go_31 (by decide) (fun h31 => ?_) (fun h31 => ?_)
        · refine v_aload_n C dX10_go_36 rfl ?_
          refine v_getR 1 C fl_RX10_10 rfl (hs.1 0 _ rfl) (hs.2 0 0 1 rfl) dX10_go_37 ?_
          refine v_iload_n C dX10_go_40 rfl ?_
          refine v_callVv C (c_X2_leaveFor hs) mt_X2_leaveFor lk_RX10_118 rfl rfl (hs.1 1 _ rfl) rfl rfl rfl rfl rfl dX10_go_41 ?_
          refine v_aload_n C dX10_go_44 rfl ?_
          refine v_getR 4 C fl_RX10_19 rfl (hs.1 0 _ rfl) (hs.2 0 1 4 rfl) dX10_go_45 ?_
          refine v_iconst 0 C dX10_go_48 (by decide) ?_
          refine v_putI C fl_RX10_122 rfl (hs.1 4 _ rfl) dX10_go_49 ?_
          refine v_iconst 1 C dX10_go_52 (by decide) ?_
          exact v_zret C (Or.inr rfl) dX10_go_53 ⟨by simp [goR, goI, *], rfl, by simp [goR, goI, *], rfl, rfl⟩
        · refine v_iconst 0 C dX10_go_34 (by decide) ?_
          exact v_zret C (Or.inl rfl) dX10_go_35 ⟨by simp [goR, goI, *], rfl, by simp [goR, goI, *], rfl, rfl⟩

set_option maxHeartbeats 4000000 in
set_option maxRecDepth 100000 in
theorem c_X11_go {lnc : Launch} {E : En} {sh : List Sh} {I : IM} {J : JM} {R : RM} {s : Int32} (hs : St sh R) : Ct lnc E yX11_go cX11_go 3 (some .boolean) 1 22 [.ref 47, .int s] sh I J R 0 0 (m_ret (some (.int (goRm I s))) sh (goIm I s) J R) := by
  refine Ct.of (lv := [some (.ref 47), some (.int s), none]) (by decide) (Nat.le_of_ble_eq_true rfl) rfl (fun X hX C => ?_)
  refine v_iload_n C dX11_go_0 rfl ?_
  refine v_iconst 0 C dX11_go_1 (by decide) ?_
  refine v_iconst 4 C dX11_go_2 (by decide) ?_
  refine v_callSi C c_X11_in mt_X11_in lk_RX11_140 rfl rfl rfl rfl rfl dX11_go_3 ?_
  refine v_if_eq 27 C dX11_go_6 (by decide) (fun h6 => ?_) (fun h6 => ?_)
  · refine v_iconst 0 C dX11_go_27 (by decide) ?_
    exact v_zret C (Or.inl rfl) dX11_go_28 ⟨by simp [goRm, goIm, allEm, *], rfl, by simp [goRm, goIm, allEm, *], rfl, rfl⟩
  · refine v_iload_n C dX11_go_9 rfl ?_
    refine v_aload_n C dX11_go_10 rfl ?_
    refine v_getI C fl_RX11_148 rfl (hs.1 47 _ rfl) dX11_go_11 ?_
    refine v_icmp_eq 27 C dX11_go_14 (by decide) (fun h14 => ?_) (fun h14 => ?_)
    · refine v_iconst 0 C dX11_go_27 (by decide) ?_
      exact v_zret C (Or.inl rfl) dX11_go_28 ⟨by simp [goRm, goIm, allEm, *], rfl, by simp [goRm, goIm, allEm, *], rfl, rfl⟩
    · refine v_aload_n C dX11_go_17 rfl ?_
      refine v_getI C fl_RX11_144 rfl (hs.1 47 _ rfl) dX11_go_18 ?_
      refine v_sipush 5000 C dX11_go_21 (by decide) ?_
      refine v_icmp_ne 29 C dX11_go_24 (by decide) (fun h24 => ?_) (fun h24 => ?_)
      · refine v_iconst 0 C dX11_go_29 (by decide) ?_
        refine v_istore_n C dX11_go_30 (Nat.le_of_ble_eq_true rfl) rfl ?_
        refine v_iload_n C dX11_go_31 rfl ?_
        refine v_bipush 6 C dX11_go_32 (by decide) ?_
        refine v_icmp_ge 54 C dX11_go_34 (by decide) (fun h34 => absurd h34 (by decide)) (fun _ => ?_)
        refine v_aload_n C dX11_go_37 rfl ?_
        refine v_getR 53 C fl_RX11_25 rfl (hs.1 47 _ rfl) (hs.2 47 13 53 rfl) dX11_go_38 ?_
        refine v_iload_n C dX11_go_41 rfl ?_
        refine v_iaload 0 C (hs.1 53 _ rfl) (at_c rfl) dX11_go_42 ?_
        refine v_if_lt 48 C dX11_go_43 (by decide) (fun h43 => ?_) (fun h43 => ?_)
        · refine v_iinc 1 C dX11_go_48 rfl (by decide) (Nat.le_of_ble_eq_true rfl) rfl ?_
          refine v_goto 31 C dX11_go_51 (by decide) ?_
          refine v_iload_n C dX11_go_31 rfl ?_
          refine v_bipush 6 C dX11_go_32 (by decide) ?_
          refine v_icmp_ge 54 C dX11_go_34 (by decide) (fun h34 => absurd h34 (by decide)) (fun _ => ?_)
          refine v_aload_n C dX11_go_37 rfl ?_
          refine v_getR 53 C fl_RX11_25 rfl (hs.1 47 _ rfl) (hs.2 47 13 53 rfl) dX11_go_38 ?_
          refine v_iload_n C dX11_go_41 rfl ?_
          refine v_iaload 1 C (hs.1 53 _ rfl) (at_c rfl) dX11_go_42 ?_
          refine v_if_lt 48 C dX11_go_43 (by decide) (fun h43 => ?_) (fun h43 => ?_)
          · refine v_iinc 2 C dX11_go_48 rfl (by decide) (Nat.le_of_ble_eq_true rfl) rfl ?_
            refine v_goto 31 C dX11_go_51 (by decide) ?_
            refine v_iload_n C dX11_go_31 rfl ?_
            refine v_bipush 6 C dX11_go_32 (by decide) ?_
            refine v_icmp_ge 54 C dX11_go_34 (by decide) (fun h34 => absurd h34 (by decide)) (fun _ => ?_)
            refine v_aload_n C dX11_go_37 rfl ?_
            refine v_getR 53 C fl_RX11_25 rfl (hs.1 47 _ rfl) (hs.2 47 13 53 rfl) dX11_go_38 ?_
            refine v_iload_n C dX11_go_41 rfl ?_
            refine v_iaload 2 C (hs.1 53 _ rfl) (at_c rfl) dX11_go_42 ?_
            refine v_if_lt 48 C dX11_go_43 (by decide) (fun h43 => ?_) (fun h43 => ?_)
            · refine v_iinc 3 C dX11_go_48 rfl (by decide) (Nat.le_of_ble_eq_true rfl) rfl ?_
              refine v_goto 31 C dX11_go_51 (by decide) ?_
              refine v_iload_n C dX11_go_31 rfl ?_
              refine v_bipush 6 C dX11_go_32 (by decide) ?_
              refine v_icmp_ge 54 C dX11_go_34 (by decide) (fun h34 => absurd h34 (by decide)) (fun _ => ?_)
              refine v_aload_n C dX11_go_37 rfl ?_
              refine v_getR 53 C fl_RX11_25 rfl (hs.1 47 _ rfl) (hs.2 47 13 53 rfl) dX11_go_38 ?_
              refine v_iload_n C dX11_go_41 rfl ?_
              refine v_iaload 3 C (hs.1 53 _ rfl) (at_c rfl) dX11_go_42 ?_
              refine v_if_lt 48 C dX11_go_43 (by decide) (fun h43 => ?_) (fun h43 => ?_)
              · refine v_iinc 4 C dX11_go_48 rfl (by decide) (Nat.le_of_ble_eq_true rfl) rfl ?_
                refine v_goto 31 C dX11_go_51 (by decide) ?_
                refine v_iload_n C dX11_go_31 rfl ?_
                refine v_bipush 6 C dX11_go_32 (by decide) ?_
                refine v_icmp_ge 54 C dX11_go_34 (by decide) (fun h34 => absurd h34 (by decide)) (fun _ => ?_)
                refine v_aload_n C dX11_go_37 rfl ?_
                refine v_getR 53 C fl_RX11_25 rfl (hs.1 47 _ rfl) (hs.2 47 13 53 rfl) dX11_go_38 ?_
                refine v_iload_n C dX11_go_41 rfl ?_
                refine v_iaload 4 C (hs.1 53 _ rfl) (at_c rfl) dX11_go_42 ?_
                refine v_if_lt 48 C dX11_go_43 (by decide) (fun h43 => ?_) (fun h43 => ?_)
                · refine v_iinc 5 C dX11_go_48 rfl (by decide) (Nat.le_of_ble_eq_true rfl) rfl ?_
                  refine v_goto 31 C dX11_go_51 (by decide) ?_
                  refine v_iload_n C dX11_go_31 rfl ?_
                  refine v_bipush 6 C dX11_go_32 (by decide) ?_
                  refine v_icmp_ge 54 C dX11_go_34 (by decide) (fun h34 => absurd h34 (by decide)) (fun _ => ?_)
                  refine v_aload_n C dX11_go_37 rfl ?_
                  refine v_getR 53 C fl_RX11_25 rfl (hs.1 47 _ rfl) (hs.2 47 13 53 rfl) dX11_go_38 ?_
                  refine v_iload_n C dX11_go_41 rfl ?_
                  refine v_iaload 5 C (hs.1 53 _ rfl) (at_c rfl) dX11_go_42 ?_
                  refine v_if_lt 48 C dX11_go_43 (by decide) (fun h43 => ?_) (fun h43 => ?_)
                  · refine v_iinc 6 C dX11_go_48 rfl (by decide) (Nat.le_of_ble_eq_true rfl) rfl ?_
                    refine v_goto 31 C dX11_go_51 (by decide) ?_
                    refine v_iload_n C dX11_go_31 rfl ?_
                    refine v_bipush 6 C dX11_go_32 (by decide) ?_
                    refine v_icmp_ge 54 C dX11_go_34 (by decide) (fun _ => ?_) (fun h34 => absurd h34 (by decide))
                    refine v_iconst 0 C dX11_go_54 (by decide) ?_
                    refine v_istore_n C dX11_go_55 (Nat.le_of_ble_eq_true rfl) rfl ?_
                    refine v_iload_n C dX11_go_56 rfl ?_
                    refine v_iconst 3 C dX11_go_57 (by decide) ?_
                    refine v_icmp_ge 78 C dX11_go_58 (by decide) (fun h58 => absurd h58 (by decide)) (fun _ => ?_)
                    refine v_aload_n C dX11_go_61 rfl ?_
                    refine v_getR 76 C fl_RX11_95 rfl (hs.1 47 _ rfl) (hs.2 47 37 76 rfl) dX11_go_62 ?_
                    refine v_iload_n C dX11_go_65 rfl ?_
                    refine v_iaload 0 C (hs.1 76 _ rfl) (at_c rfl) dX11_go_66 ?_
                    refine v_if_le 72 C dX11_go_67 (by decide) (fun h67 => ?_) (fun h67 => ?_)
                    · refine v_iinc 1 C dX11_go_72 rfl (by decide) (Nat.le_of_ble_eq_true rfl) rfl ?_
                      refine v_goto 56 C dX11_go_75 (by decide) ?_
                      refine v_iload_n C dX11_go_56 rfl ?_
                      refine v_iconst 3 C dX11_go_57 (by decide) ?_
                      refine v_icmp_ge 78 C dX11_go_58 (by decide) (fun h58 => absurd h58 (by decide)) (fun _ => ?_)
                      refine v_aload_n C dX11_go_61 rfl ?_
                      refine v_getR 76 C fl_RX11_95 rfl (hs.1 47 _ rfl) (hs.2 47 37 76 rfl) dX11_go_62 ?_
                      refine v_iload_n C dX11_go_65 rfl ?_
                      refine v_iaload 1 C (hs.1 76 _ rfl) (at_c rfl) dX11_go_66 ?_
                      refine v_if_le 72 C dX11_go_67 (by decide) (fun h67 => ?_) (fun h67 => ?_)
                      · refine v_iinc 2 C dX11_go_72 rfl (by decide) (Nat.le_of_ble_eq_true rfl) rfl ?_
                        refine v_goto 56 C dX11_go_75 (by decide) ?_
                        refine v_iload_n C dX11_go_56 rfl ?_
                        refine v_iconst 3 C dX11_go_57 (by decide) ?_
                        refine v_icmp_ge 78 C dX11_go_58 (by decide) (fun h58 => absurd h58 (by decide)) (fun _ => ?_)
                        refine v_aload_n C dX11_go_61 rfl ?_
                        refine v_getR 76 C fl_RX11_95 rfl (hs.1 47 _ rfl) (hs.2 47 37 76 rfl) dX11_go_62 ?_
                        refine v_iload_n C dX11_go_65 rfl ?_
                        refine v_iaload 2 C (hs.1 76 _ rfl) (at_c rfl) dX11_go_66 ?_
                        refine v_if_le 72 C dX11_go_67 (by decide) (fun h67 => ?_) (fun h67 => ?_)
                        · refine v_iinc 3 C dX11_go_72 rfl (by decide) (Nat.le_of_ble_eq_true rfl) rfl ?_
                          refine v_goto 56 C dX11_go_75 (by decide) ?_
                          refine v_iload_n C dX11_go_56 rfl ?_
                          refine v_iconst 3 C dX11_go_57 (by decide) ?_
                          refine v_icmp_ge 78 C dX11_go_58 (by decide) (fun _ => ?_) (fun h58 => absurd h58 (by decide))
                          refine v_aload_n C dX11_go_78 rfl ?_
                          refine v_iload_n C dX11_go_79 rfl ?_
                          refine v_putI C fl_RX11_148 rfl (hs.1 47 _ rfl) dX11_go_80 ?_
                          refine v_aload_n C dX11_go_83 rfl ?_
                          refine v_iconst 0 C dX11_go_84 (by decide) ?_
                          refine v_putI C fl_RX11_160 rfl (hs.1 47 _ rfl) dX11_go_85 ?_
                          refine v_aload_n C dX11_go_88 rfl ?_
                          refine v_iconst 0 C dX11_go_89 (by decide) ?_
                          refine v_putI C fl_RX11_151 rfl (hs.1 47 _ rfl) dX11_go_90 ?_
                          refine v_iconst 1 C dX11_go_93 (by decide) ?_
                          exact v_zret C (Or.inr rfl) dX11_go_94 ⟨by simp [goRm, goIm, allEm, *], rfl, by simp [goRm, goIm, allEm, *], rfl, rfl⟩
                        · refine v_iconst 0 C dX11_go_70 (by decide) ?_
                          exact v_zret C (Or.inl rfl) dX11_go_71 ⟨by simp [goRm, goIm, allEm, *], rfl, by simp [goRm, goIm, allEm, *], rfl, rfl⟩
                      · refine v_iconst 0 C dX11_go_70 (by decide) ?_
                        exact v_zret C (Or.inl rfl) dX11_go_71 ⟨by simp [goRm, goIm, allEm, *], rfl, by simp [goRm, goIm, allEm, *], rfl, rfl⟩
                    · refine v_iconst 0 C dX11_go_70 (by decide) ?_
                      exact v_zret C (Or.inl rfl) dX11_go_71 ⟨by simp [goRm, goIm, allEm, *], rfl, by simp [goRm, goIm, allEm, *], rfl, rfl⟩
                  · refine v_iconst 0 C dX11_go_46 (by decide) ?_
                    exact v_zret C (Or.inl rfl) dX11_go_47 ⟨by simp [goRm, goIm, allEm, *], rfl, by simp [goRm, goIm, allEm, *], rfl, rfl⟩
                · refine v_iconst 0 C dX11_go_46 (by decide) ?_
                  exact v_zret C (Or.inl rfl) dX11_go_47 ⟨by simp [goRm, goIm, allEm, *], rfl, by simp [goRm, goIm, allEm, *], rfl, rfl⟩
              · refine v_iconst 0 C dX11_go_46 (by decide) ?_
                exact v_zret C (Or.inl rfl) dX11_go_47 ⟨by simp [goRm, goIm, allEm, *], rfl, by simp [goRm, goIm, allEm, *], rfl, rfl⟩
            · refine v_iconst 0 C dX11_go_46 (by decide) ?_
              exact v_zret C (Or.inl rfl) dX11_go_47 ⟨by simp [goRm, goIm, allEm, *], rfl, by simp [goRm, goIm, allEm, *], rfl, rfl⟩
          · refine v_iconst 0 C dX11_go_46 (by decide) ?_
            exact v_zret C (Or.inl rfl) dX11_go_47 ⟨by simp [goRm, goIm, allEm, *], rfl, by simp [goRm, goIm, allEm, *], rfl, rfl⟩
        · refine v_iconst 0 C dX11_go_46 (by decide) ?_
          exact v_zret C (Or.inl rfl) dX11_go_47 ⟨by simp [goRm, goIm, allEm, *], rfl, by simp [goRm, goIm, allEm, *], rfl, rfl⟩
      · refine v_iconst 0 C dX11_go_27 (by decide) ?_
        exact v_zret C (Or.inl rfl) dX11_go_28 ⟨by simp [goRm, goIm, allEm, *], rfl, by simp [goRm, goIm, allEm, *], rfl, rfl⟩

set_option maxHeartbeats 4000000 in
set_option maxRecDepth 100000 in
theorem c_X9_append {lnc : Launch} {E : En} {sh : List Sh} {I : IM} {J : JM} {R : RM} {n : Nat} {v : Int32} (hs : St sh R) (hn : I 8 5 = nI n) (hl : n + 4 ≤ 200) : Ct lnc E yX9_append cX9_append 3 none 0 0 [.ref 8, .int v] sh I J R 0 0 (m_ret none sh (appI I n v) J R) := by
  refine Ct.of (lv := [some (.ref 8), some (.int v), none]) (by decide) (Nat.le_of_ble_eq_true rfl) rfl (fun X hX C => ?_)
  refine v_aload_n C dX9_append_0 rfl ?_
  refine v_getI C fl_RX9_27 rfl (hs.1 8 _ rfl) dX9_append_1 ?_
  refine v_iconst 4 C dX9_append_4 (by decide) ?_
  refine v_iadd C dX9_append_5 ?_
  refine v_sipush 200 C dX9_append_6 (by decide) ?_
  refine v_icmp_le 13 C dX9_append_9 (by decide) (fun h9 => ?_) (fun h9 => False.elim (h9 (by rw [hn]; exact app_len hl)))
  refine v_bipush 24 C dX9_append_13 (by decide) ?_
  refine v_istore_n C dX9_append_15 (Nat.le_of_ble_eq_true rfl) rfl ?_
  refine v_iload_n C dX9_append_16 rfl ?_
  refine v_if_lt 52 C dX9_append_17 (by decide) (fun h17 => absurd h17 (by decide)) (fun _ => ?_)
  refine v_aload_n C dX9_append_20 rfl ?_
  refine v_getR 9 C fl_RX9_11 rfl (hs.1 8 _ rfl) (hs.2 8 0 9 rfl) dX9_append_21 ?_
  refine v_aload_n C dX9_append_24 rfl ?_
  refine v_getI C fl_RX9_27 rfl (hs.1 8 _ rfl) dX9_append_25 ?_
  refine v_iload_n C dX9_append_28 rfl ?_
  refine v_iload_n C dX9_append_29 rfl ?_
  refine v_iushr C dX9_append_30 ?_
  refine v_sipush 255 C dX9_append_31 (by decide) ?_
  refine v_iand C dX9_append_34 ?_
  refine v_iastore n C (hs.1 9 _ rfl) (at_e (by simp [iu_ap, hn, nI_s]) (by omega) (by decide)) dX9_append_35 ?_
  refine v_aload_n C dX9_append_36 rfl ?_
  refine v_dupr C dX9_append_37 ?_
  refine v_getI C fl_RX9_27 rfl (hs.1 8 _ rfl) dX9_append_38 ?_
  refine v_iconst 1 C dX9_append_41 (by decide) ?_
  refine v_iadd C dX9_append_42 ?_
  refine v_putI C fl_RX9_27 rfl (hs.1 8 _ rfl) dX9_append_43 ?_
  refine v_iinc 16 C dX9_append_46 rfl (by decide) (Nat.le_of_ble_eq_true rfl) rfl ?_
  refine v_goto 16 C dX9_append_49 (by decide) ?_
  refine v_iload_n C dX9_append_16 rfl ?_
  refine v_if_lt 52 C dX9_append_17 (by decide) (fun h17 => absurd h17 (by decide)) (fun _ => ?_)
  refine v_aload_n C dX9_append_20 rfl ?_
  refine v_getR 9 C fl_RX9_11 rfl (hs.1 8 _ rfl) (hs.2 8 0 9 rfl) dX9_append_21 ?_
  refine v_aload_n C dX9_append_24 rfl ?_
  refine v_getI C fl_RX9_27 rfl (hs.1 8 _ rfl) dX9_append_25 ?_
  refine v_iload_n C dX9_append_28 rfl ?_
  refine v_iload_n C dX9_append_29 rfl ?_
  refine v_iushr C dX9_append_30 ?_
  refine v_sipush 255 C dX9_append_31 (by decide) ?_
  refine v_iand C dX9_append_34 ?_
  refine v_iastore (n + 1) C (hs.1 9 _ rfl) (at_e (by simp [iu_ap, hn, nI_s]) (by omega) (by decide)) dX9_append_35 ?_
  refine v_aload_n C dX9_append_36 rfl ?_
  refine v_dupr C dX9_append_37 ?_
  refine v_getI C fl_RX9_27 rfl (hs.1 8 _ rfl) dX9_append_38 ?_
  refine v_iconst 1 C dX9_append_41 (by decide) ?_
  refine v_iadd C dX9_append_42 ?_
  refine v_putI C fl_RX9_27 rfl (hs.1 8 _ rfl) dX9_append_43 ?_
  refine v_iinc 8 C dX9_append_46 rfl (by decide) (Nat.le_of_ble_eq_true rfl) rfl ?_
  refine v_goto 16 C dX9_append_49 (by decide) ?_
  refine v_iload_n C dX9_append_16 rfl ?_
  refine v_if_lt 52 C dX9_append_17 (by decide) (fun h17 => absurd h17 (by decide)) (fun _ => ?_)
  refine v_aload_n C dX9_append_20 rfl ?_
  refine v_getR 9 C fl_RX9_11 rfl (hs.1 8 _ rfl) (hs.2 8 0 9 rfl) dX9_append_21 ?_
  refine v_aload_n C dX9_append_24 rfl ?_
  refine v_getI C fl_RX9_27 rfl (hs.1 8 _ rfl) dX9_append_25 ?_
  refine v_iload_n C dX9_append_28 rfl ?_
  refine v_iload_n C dX9_append_29 rfl ?_
  refine v_iushr C dX9_append_30 ?_
  refine v_sipush 255 C dX9_append_31 (by decide) ?_
  refine v_iand C dX9_append_34 ?_
  refine v_iastore (n + 2) C (hs.1 9 _ rfl) (at_e (by simp [iu_ap, hn, nI_s]) (by omega) (by decide)) dX9_append_35 ?_
  refine v_aload_n C dX9_append_36 rfl ?_
  refine v_dupr C dX9_append_37 ?_
  refine v_getI C fl_RX9_27 rfl (hs.1 8 _ rfl) dX9_append_38 ?_
  refine v_iconst 1 C dX9_append_41 (by decide) ?_
  refine v_iadd C dX9_append_42 ?_
  refine v_putI C fl_RX9_27 rfl (hs.1 8 _ rfl) dX9_append_43 ?_
  refine v_iinc 0 C dX9_append_46 rfl (by decide) (Nat.le_of_ble_eq_true rfl) rfl ?_
  refine v_goto 16 C dX9_append_49 (by decide) ?_
  refine v_iload_n C dX9_append_16 rfl ?_
  refine v_if_lt 52 C dX9_append_17 (by decide) (fun h17 => absurd h17 (by decide)) (fun _ => ?_)
  refine v_aload_n C dX9_append_20 rfl ?_
  refine v_getR 9 C fl_RX9_11 rfl (hs.1 8 _ rfl) (hs.2 8 0 9 rfl) dX9_append_21 ?_
  refine v_aload_n C dX9_append_24 rfl ?_
  refine v_getI C fl_RX9_27 rfl (hs.1 8 _ rfl) dX9_append_25 ?_
  refine v_iload_n C dX9_append_28 rfl ?_
  refine v_iload_n C dX9_append_29 rfl ?_
  refine v_iushr C dX9_append_30 ?_
  refine v_sipush 255 C dX9_append_31 (by decide) ?_
  refine v_iand C dX9_append_34 ?_
  refine v_iastore (n + 3) C (hs.1 9 _ rfl) (at_e (by simp [iu_ap, hn, nI_s]) (by omega) (by decide)) dX9_append_35 ?_
  refine v_aload_n C dX9_append_36 rfl ?_
  refine v_dupr C dX9_append_37 ?_
  refine v_getI C fl_RX9_27 rfl (hs.1 8 _ rfl) dX9_append_38 ?_
  refine v_iconst 1 C dX9_append_41 (by decide) ?_
  refine v_iadd C dX9_append_42 ?_
  refine v_putI C fl_RX9_27 rfl (hs.1 8 _ rfl) dX9_append_43 ?_
  refine v_iinc (-8) C dX9_append_46 rfl (by decide) (Nat.le_of_ble_eq_true rfl) rfl ?_
  refine v_goto 16 C dX9_append_49 (by decide) ?_
  refine v_iload_n C dX9_append_16 rfl ?_
  refine v_if_lt 52 C dX9_append_17 (by decide) (fun _ => ?_) (fun h17 => absurd h17 (by decide))
  exact v_vret C dX9_append_52 ⟨rfl, rfl, by simp [appI, cB, iu_ap, hn, nI_s], rfl, rfl⟩

set_option maxHeartbeats 4000000 in
set_option maxRecDepth 100000 in
theorem c_X11_four {lnc : Launch} {E : En} {sh : List Sh} {I : IM} {J : JM} {R : RM} {n : Nat} {v : Int32} (hs : St sh R) (hn : I 47 39 = nI n) (hl : n + 4 ≤ 200) : Ct lnc E yX11_four cX11_four 3 none 0 0 [.ref 47, .int v] sh I J R 0 0 (m_ret none sh (fourI I n v) J R) := by
  refine Ct.of (lv := [some (.ref 47), some (.int v), none]) (by decide) (Nat.le_of_ble_eq_true rfl) rfl (fun X hX C => ?_)
  refine v_bipush 24 C dX11_four_0 (by decide) ?_
  refine v_istore_n C dX11_four_2 (Nat.le_of_ble_eq_true rfl) rfl ?_
  refine v_iload_n C dX11_four_3 rfl ?_
  refine v_if_lt 36 C dX11_four_4 (by decide) (fun h4 => absurd h4 (by decide)) (fun _ => ?_)
  refine v_aload_n C dX11_four_7 rfl ?_
  refine v_getR 77 C fl_RX11_98 rfl (hs.1 47 _ rfl) (hs.2 47 38 77 rfl) dX11_four_8 ?_
  refine v_aload_n C dX11_four_11 rfl ?_
  refine v_getI C fl_RX11_163 rfl (hs.1 47 _ rfl) dX11_four_12 ?_
  refine v_iload_n C dX11_four_15 rfl ?_
  refine v_iload_n C dX11_four_16 rfl ?_
  refine v_ishr C dX11_four_17 ?_
  refine v_i2b C dX11_four_18 ?_
  refine v_bastore n C (hs.1 77 _ rfl) (at_e (by simp [iu_ap, hn, nI_s]) (by omega) (by decide)) (pk_nb _) dX11_four_19 ?_
  refine v_aload_n C dX11_four_20 rfl ?_
  refine v_dupr C dX11_four_21 ?_
  refine v_getI C fl_RX11_163 rfl (hs.1 47 _ rfl) dX11_four_22 ?_
  refine v_iconst 1 C dX11_four_25 (by decide) ?_
  refine v_iadd C dX11_four_26 ?_
  refine v_putI C fl_RX11_163 rfl (hs.1 47 _ rfl) dX11_four_27 ?_
  refine v_iinc 16 C dX11_four_30 rfl (by decide) (Nat.le_of_ble_eq_true rfl) rfl ?_
  refine v_goto 3 C dX11_four_33 (by decide) ?_
  refine v_iload_n C dX11_four_3 rfl ?_
  refine v_if_lt 36 C dX11_four_4 (by decide) (fun h4 => absurd h4 (by decide)) (fun _ => ?_)
  refine v_aload_n C dX11_four_7 rfl ?_
  refine v_getR 77 C fl_RX11_98 rfl (hs.1 47 _ rfl) (hs.2 47 38 77 rfl) dX11_four_8 ?_
  refine v_aload_n C dX11_four_11 rfl ?_
  refine v_getI C fl_RX11_163 rfl (hs.1 47 _ rfl) dX11_four_12 ?_
  refine v_iload_n C dX11_four_15 rfl ?_
  refine v_iload_n C dX11_four_16 rfl ?_
  refine v_ishr C dX11_four_17 ?_
  refine v_i2b C dX11_four_18 ?_
  refine v_bastore (n + 1) C (hs.1 77 _ rfl) (at_e (by simp [iu_ap, hn, nI_s]) (by omega) (by decide)) (pk_nb _) dX11_four_19 ?_
  refine v_aload_n C dX11_four_20 rfl ?_
  refine v_dupr C dX11_four_21 ?_
  refine v_getI C fl_RX11_163 rfl (hs.1 47 _ rfl) dX11_four_22 ?_
  refine v_iconst 1 C dX11_four_25 (by decide) ?_
  refine v_iadd C dX11_four_26 ?_
  refine v_putI C fl_RX11_163 rfl (hs.1 47 _ rfl) dX11_four_27 ?_
  refine v_iinc 8 C dX11_four_30 rfl (by decide) (Nat.le_of_ble_eq_true rfl) rfl ?_
  refine v_goto 3 C dX11_four_33 (by decide) ?_
  refine v_iload_n C dX11_four_3 rfl ?_
  refine v_if_lt 36 C dX11_four_4 (by decide) (fun h4 => absurd h4 (by decide)) (fun _ => ?_)
  refine v_aload_n C dX11_four_7 rfl ?_
  refine v_getR 77 C fl_RX11_98 rfl (hs.1 47 _ rfl) (hs.2 47 38 77 rfl) dX11_four_8 ?_
  refine v_aload_n C dX11_four_11 rfl ?_
  refine v_getI C fl_RX11_163 rfl (hs.1 47 _ rfl) dX11_four_12 ?_
  refine v_iload_n C dX11_four_15 rfl ?_
  refine v_iload_n C dX11_four_16 rfl ?_
  refine v_ishr C dX11_four_17 ?_
  refine v_i2b C dX11_four_18 ?_
  refine v_bastore (n + 2) C (hs.1 77 _ rfl) (at_e (by simp [iu_ap, hn, nI_s]) (by omega) (by decide)) (pk_nb _) dX11_four_19 ?_
  refine v_aload_n C dX11_four_20 rfl ?_
  refine v_dupr C dX11_four_21 ?_
  refine v_getI C fl_RX11_163 rfl (hs.1 47 _ rfl) dX11_four_22 ?_
  refine v_iconst 1 C dX11_four_25 (by decide) ?_
  refine v_iadd C dX11_four_26 ?_
  refine v_putI C fl_RX11_163 rfl (hs.1 47 _ rfl) dX11_four_27 ?_
  refine v_iinc 0 C dX11_four_30 rfl (by decide) (Nat.le_of_ble_eq_true rfl) rfl ?_
  refine v_goto 3 C dX11_four_33 (by decide) ?_
  refine v_iload_n C dX11_four_3 rfl ?_
  refine v_if_lt 36 C dX11_four_4 (by decide) (fun h4 => absurd h4 (by decide)) (fun _ => ?_)
  refine v_aload_n C dX11_four_7 rfl ?_
  refine v_getR 77 C fl_RX11_98 rfl (hs.1 47 _ rfl) (hs.2 47 38 77 rfl) dX11_four_8 ?_
  refine v_aload_n C dX11_four_11 rfl ?_
  refine v_getI C fl_RX11_163 rfl (hs.1 47 _ rfl) dX11_four_12 ?_
  refine v_iload_n C dX11_four_15 rfl ?_
  refine v_iload_n C dX11_four_16 rfl ?_
  refine v_ishr C dX11_four_17 ?_
  refine v_i2b C dX11_four_18 ?_
  refine v_bastore (n + 3) C (hs.1 77 _ rfl) (at_e (by simp [iu_ap, hn, nI_s]) (by omega) (by decide)) (pk_nb _) dX11_four_19 ?_
  refine v_aload_n C dX11_four_20 rfl ?_
  refine v_dupr C dX11_four_21 ?_
  refine v_getI C fl_RX11_163 rfl (hs.1 47 _ rfl) dX11_four_22 ?_
  refine v_iconst 1 C dX11_four_25 (by decide) ?_
  refine v_iadd C dX11_four_26 ?_
  refine v_putI C fl_RX11_163 rfl (hs.1 47 _ rfl) dX11_four_27 ?_
  refine v_iinc (-8) C dX11_four_30 rfl (by decide) (Nat.le_of_ble_eq_true rfl) rfl ?_
  refine v_goto 3 C dX11_four_33 (by decide) ?_
  refine v_iload_n C dX11_four_3 rfl ?_
  refine v_if_lt 36 C dX11_four_4 (by decide) (fun _ => ?_) (fun h4 => absurd h4 (by decide))
  exact v_vret C dX11_four_36 ⟨rfl, rfl, by simp [fourI, mB, iu_ap, hn, nI_s], rfl, rfl⟩

set_option maxHeartbeats 4000000 in
set_option maxRecDepth 100000 in
theorem c_X9_hasRoom {lnc : Launch} {E : En} {sh : List Sh} {I : IM} {J : JM} {R : RM} (hs : St sh R) : Ct lnc E yX9_hasRoom cX9_hasRoom 1 (some .boolean) 0 0 [.ref 8] sh I J R 0 0 (m_ret (some (.int (if 200 < I 8 5 + 20 then 0 else 1))) sh I J R) := by
  refine Ct.of (lv := [some (.ref 8)]) (by decide) (Nat.le_of_ble_eq_true rfl) rfl (fun X hX C => ?_)
  refine v_aload_n C dX9_hasRoom_0 rfl ?_
  refine v_getI C fl_RX9_27 rfl (hs.1 8 _ rfl) dX9_hasRoom_1 ?_
  refine v_bipush 20 C dX9_hasRoom_4 (by decide) ?_
  refine v_iadd C dX9_hasRoom_6 ?_
  refine v_sipush 200 C dX9_hasRoom_7 (by decide) ?_
  refine v_icmp_gt 17 C dX9_hasRoom_10 (by decide) (fun h10 => ?_) (fun h10 => ?_)
  · refine v_iconst 0 C dX9_hasRoom_17 (by decide) ?_
    exact v_zret C (Or.inl rfl) dX9_hasRoom_18 ⟨by simp [*], rfl, rfl, rfl, rfl⟩
  · refine v_iconst 1 C dX9_hasRoom_13 (by decide) ?_
    refine v_goto 18 C dX9_hasRoom_14 (by decide) ?_
    exact v_zret C (Or.inr rfl) dX9_hasRoom_18 ⟨by simp [*], rfl, rfl, rfl, rfl⟩

theorem feed_no {n : Nat} (h : 200 < nI n + 20) (hn : n ≤ 200) : ¬ n + 20 ≤ 200 := by
  intro h2
  have e : nI n + 20 = nI (n + 20) := nI_add n 20
  rw [e] at h
  exact absurd h (Int32.not_lt.mpr (nI_le h2 (by decide)))
theorem feed_yes {n : Nat} (h : ¬ 200 < nI n + 20) (hn : n ≤ 200) : n + 20 ≤ 200 := by
  have e : nI n + 20 = nI (n + 20) := nI_add n 20
  rw [e] at h
  rcases Nat.lt_or_ge 200 (n + 20) with q | q
  · exact absurd (nI_lt q (by omega)) h
  · exact q
theorem feed_n7 {n : Nat} (h : (if 200 < nI n + 20 then (0 : Int32) else 1) = 0) (hn : n ≤ 200) : ¬ n + 20 ≤ 200 := by
  by_cases hq : 200 < nI n + 20
  · exact feed_no hq hn
  · rw [if_neg hq] at h; exact absurd h (by decide)
theorem feed_y7 {n : Nat} (h : ¬ (if 200 < nI n + 20 then (0 : Int32) else 1) = 0) (hn : n ≤ 200) : n + 20 ≤ 200 := by
  by_cases hq : 200 < nI n + 20
  · rw [if_pos hq] at h; exact absurd rfl h
  · exact feed_yes hq hn
theorem feed_yes' {n : Nat} (h : nI n + 20 ≤ 200) (hn : n ≤ 200) : n + 20 ≤ 200 := feed_yes (Int32.not_lt.mpr h) hn
theorem feed_no' {n : Nat} (h : ¬ nI n + 20 ≤ 200) (hn : n ≤ 200) : ¬ n + 20 ≤ 200 := feed_no (Int32.not_le.mp h) hn

set_option maxHeartbeats 4000000 in
set_option maxRecDepth 100000 in
theorem c_X10_feed {lnc : Launch} {E : En} {sh : List Sh} {I : IM} {J : JM} {R : RM} {n : Nat} {a b c d e : Int32} (hs : St sh R) (hn : I 8 5 = nI n) (hl : n ≤ 200) : Ct lnc E yX10_feed cX10_feed 6 (some .int) 1 22 [.ref 0, .int a, .int b, .int c, .int d, .int e] sh I J R 0 0 (m_ret (some (.int (if n + 20 ≤ 200 then nI (n + 20) else -1))) sh (if n + 20 ≤ 200 then feedI I n a b c d e else I) J R) := by
  refine Ct.of (lv := [some (.ref 0), some (.int a), some (.int b), some (.int c), some (.int d), some (.int e)]) (by decide) (Nat.le_of_ble_eq_true rfl) rfl (fun X hX C => ?_)
  refine v_aload_n C dX10_feed_0 rfl ?_
  refine v_getR 8 C fl_RX10_26 rfl (hs.1 0 _ rfl) (hs.2 0 2 8 rfl) dX10_feed_1 ?_
  have hasR := c_X9_hasRoom (lnc := xl X) (E := E) (I := I) (J := J) hs
  rw [hn] at hasR
  refine v_callVi C hasR mt_X9_hasRoom lk_RX10_125 rfl rfl (hs.1 8 _ rfl) rfl rfl rfl rfl rfl dX10_feed_4 ?_
  refine v_if_ne 12 C dX10_feed_7 (by decide) (fun h7 => ?_) (fun h7 => ?_)
  · refine v_aload_n C dX10_feed_12 rfl ?_
    refine v_getR 8 C fl_RX10_26 rfl (hs.1 0 _ rfl) (hs.2 0 2 8 rfl) dX10_feed_13 ?_
    refine v_iload_n C dX10_feed_16 rfl ?_
    have hy : n + 20 ≤ 200 := feed_y7 h7 hl
    refine v_callVv C (c_X9_append (n := n) hs hn (by omega)) mt_X9_append lk_RX10_128 rfl rfl (hs.1 8 _ rfl) rfl rfl rfl rfl rfl dX10_feed_17 ?_
    refine v_aload_n C dX10_feed_20 rfl ?_
    refine v_getR 8 C fl_RX10_26 rfl (hs.1 0 _ rfl) (hs.2 0 2 8 rfl) dX10_feed_21 ?_
    refine v_iload_n C dX10_feed_24 rfl ?_
    refine v_callVv C (c_X9_append (n := n + 4) hs (by simp [appI, iu_ap]) (by omega)) mt_X9_append lk_RX10_128 rfl rfl (hs.1 8 _ rfl) rfl rfl rfl rfl rfl dX10_feed_25 ?_
    refine v_aload_n C dX10_feed_28 rfl ?_
    refine v_getR 8 C fl_RX10_26 rfl (hs.1 0 _ rfl) (hs.2 0 2 8 rfl) dX10_feed_29 ?_
    refine v_iload_n C dX10_feed_32 rfl ?_
    refine v_callVv C (c_X9_append (n := n + 8) hs (by simp [appI, iu_ap]) (by omega)) mt_X9_append lk_RX10_128 rfl rfl (hs.1 8 _ rfl) rfl rfl rfl rfl rfl dX10_feed_33 ?_
    refine v_aload_n C dX10_feed_36 rfl ?_
    refine v_getR 8 C fl_RX10_26 rfl (hs.1 0 _ rfl) (hs.2 0 2 8 rfl) dX10_feed_37 ?_
    refine v_iload C dX10_feed_40 rfl ?_
    refine v_callVv C (c_X9_append (n := n + 12) hs (by simp [appI, iu_ap]) (by omega)) mt_X9_append lk_RX10_128 rfl rfl (hs.1 8 _ rfl) rfl rfl rfl rfl rfl dX10_feed_42 ?_
    refine v_aload_n C dX10_feed_45 rfl ?_
    refine v_getR 8 C fl_RX10_26 rfl (hs.1 0 _ rfl) (hs.2 0 2 8 rfl) dX10_feed_46 ?_
    refine v_iload C dX10_feed_49 rfl ?_
    refine v_callVv C (c_X9_append (n := n + 16) hs (by simp [appI, iu_ap]) (by omega)) mt_X9_append lk_RX10_128 rfl rfl (hs.1 8 _ rfl) rfl rfl rfl rfl rfl dX10_feed_51 ?_
    refine v_aload_n C dX10_feed_54 rfl ?_
    refine v_getR 8 C fl_RX10_26 rfl (hs.1 0 _ rfl) (hs.2 0 2 8 rfl) dX10_feed_55 ?_
    refine v_getI C fl_RX10_131 rfl (hs.1 8 _ rfl) dX10_feed_58 ?_
    exact v_iret C dX10_feed_61 (by rw [if_pos hy, if_pos hy]; exact ⟨by simp [appI, iu_ap], rfl, rfl, rfl, rfl⟩)
  · refine v_iconst (-1) C dX10_feed_10 (by decide) ?_
    exact v_iret C dX10_feed_11 (by rw [if_neg (feed_n7 h7 hl), if_neg (feed_n7 h7 hl)]; exact m_ret_rf)

set_option maxHeartbeats 4000000 in
set_option maxRecDepth 100000 in
theorem c_X11_feed {lnc : Launch} {E : En} {sh : List Sh} {I : IM} {J : JM} {R : RM} {n : Nat} {a b c d e : Int32} (hs : St sh R) (hn : I 47 39 = nI n) (hl : n ≤ 200) : Ct lnc E yX11_feed cX11_feed 6 (some .int) 1 22 [.ref 47, .int a, .int b, .int c, .int d, .int e] sh I J R 0 0 (m_ret (some (.int (if n + 20 ≤ 200 then nI (n + 20) else -1))) sh (if n + 20 ≤ 200 then feedIm I n a b c d e else I) J R) := by
  refine Ct.of (lv := [some (.ref 47), some (.int a), some (.int b), some (.int c), some (.int d), some (.int e)]) (by decide) (Nat.le_of_ble_eq_true rfl) rfl (fun X hX C => ?_)
  refine v_aload_n C dX11_feed_0 rfl ?_
  refine v_getI C fl_RX11_163 rfl (hs.1 47 _ rfl) dX11_feed_1 ?_
  refine v_eqi hn ?_
  refine v_bipush 20 C dX11_feed_4 (by decide) ?_
  refine v_iadd C dX11_feed_6 ?_
  refine v_sipush 200 C dX11_feed_7 (by decide) ?_
  refine v_icmp_le 15 C dX11_feed_10 (by decide) (fun h10 => ?_) (fun h10 => ?_)
  · refine v_aload_n C dX11_feed_15 rfl ?_
    refine v_iload_n C dX11_feed_16 rfl ?_
    have hy : n + 20 ≤ 200 := feed_yes' h10 hl
    refine v_callVv C (c_X11_four (n := n) hs hn (by omega)) mt_X11_four lk_RX11_166 rfl rfl (hs.1 47 _ rfl) rfl rfl rfl rfl rfl dX11_feed_17 ?_
    refine v_aload_n C dX11_feed_20 rfl ?_
    refine v_iload_n C dX11_feed_21 rfl ?_
    refine v_callVv C (c_X11_four (n := n + 4) hs (by simp [fourI, iu_ap]) (by omega)) mt_X11_four lk_RX11_166 rfl rfl (hs.1 47 _ rfl) rfl rfl rfl rfl rfl dX11_feed_22 ?_
    refine v_aload_n C dX11_feed_25 rfl ?_
    refine v_iload_n C dX11_feed_26 rfl ?_
    refine v_callVv C (c_X11_four (n := n + 8) hs (by simp [fourI, iu_ap]) (by omega)) mt_X11_four lk_RX11_166 rfl rfl (hs.1 47 _ rfl) rfl rfl rfl rfl rfl dX11_feed_27 ?_
    refine v_aload_n C dX11_feed_30 rfl ?_
    refine v_iload C dX11_feed_31 rfl ?_
    refine v_callVv C (c_X11_four (n := n + 12) hs (by simp [fourI, iu_ap]) (by omega)) mt_X11_four lk_RX11_166 rfl rfl (hs.1 47 _ rfl) rfl rfl rfl rfl rfl dX11_feed_33 ?_
    refine v_aload_n C dX11_feed_36 rfl ?_
    refine v_iload C dX11_feed_37 rfl ?_
    refine v_callVv C (c_X11_four (n := n + 16) hs (by simp [fourI, iu_ap]) (by omega)) mt_X11_four lk_RX11_166 rfl rfl (hs.1 47 _ rfl) rfl rfl rfl rfl rfl dX11_feed_39 ?_
    refine v_aload_n C dX11_feed_42 rfl ?_
    refine v_getI C fl_RX11_163 rfl (hs.1 47 _ rfl) dX11_feed_43 ?_
    exact v_iret C dX11_feed_46 (by rw [if_pos hy, if_pos hy]; exact ⟨by simp [fourI, iu_ap], rfl, rfl, rfl, rfl⟩)
  · refine v_iconst (-1) C dX11_feed_13 (by decide) ?_
    exact v_iret C dX11_feed_14 (by rw [if_neg (feed_no' h10 hl), if_neg (feed_no' h10 hl)]; exact m_ret_rf)
