set_option maxHeartbeats 4000000 in
set_option maxRecDepth 100000 in
theorem c_X5_sumBy {lnc : Launch} {E : En} {sh : List Sh} {I : IM} {J : JM} {R : RM} {s y t : Nat} (hs : St sh R) (h1 : s < 5) (h2 : y < 10) (h3 : t < 5) : Ct lnc E yX5_sumBy cX5_sumBy 4 (some .int) 0 0 [.ref 42, .int (nI s), .int (nI y), .int (nI t)] sh I J R 0 0 (m_ret (some (.int (sb I s y t))) sh I J R) := by
  refine Ct.of (lv := [some (.ref 42), some (.int (nI s)), some (.int (nI y)), some (.int (nI t))]) (by decide) (Nat.le_of_ble_eq_true rfl) rfl (fun X hX C => ?_)
  refine v_aload_n C dX5_sumBy_0 rfl ?_
  refine v_getR 44 C fl_RX5_15 rfl (hs.1 42 _ rfl) (hs.2 42 1 44 rfl) dX5_sumBy_1 ?_
  refine v_iload_n C dX5_sumBy_4 rfl ?_
  refine v_iconst 5 C dX5_sumBy_5 (by decide) ?_
  refine v_imul C dX5_sumBy_6 ?_
  refine v_iload_n C dX5_sumBy_7 rfl ?_
  refine v_iadd C dX5_sumBy_8 ?_
  refine v_iaload (s * 5 + t) C (hs.1 44 _ rfl) (at_e (idx5 s t) (by omega) (by decide)) dX5_sumBy_9 ?_
  refine v_aload_n C dX5_sumBy_10 rfl ?_
  refine v_getR 45 C fl_RX5_18 rfl (hs.1 42 _ rfl) (hs.2 42 2 45 rfl) dX5_sumBy_11 ?_
  refine v_iload_n C dX5_sumBy_14 rfl ?_
  refine v_iconst 5 C dX5_sumBy_15 (by decide) ?_
  refine v_imul C dX5_sumBy_16 ?_
  refine v_iload_n C dX5_sumBy_17 rfl ?_
  refine v_iadd C dX5_sumBy_18 ?_
  refine v_iaload (y * 5 + t) C (hs.1 45 _ rfl) (at_e (idx5 y t) (by omega) (by decide)) dX5_sumBy_19 ?_
  refine v_iadd C dX5_sumBy_20 ?_
  exact v_iret C dX5_sumBy_21 ⟨rfl, rfl, rfl, rfl, rfl⟩

set_option maxHeartbeats 4000000 in
set_option maxRecDepth 100000 in
theorem c_X5_nextSite {lnc : Launch} {E : En} {sh : List Sh} {I : IM} {J : JM} {R : RM} {s y : Nat} (hs : St sh R) (h1 : s < 5) (h2 : y < 10) : Ct lnc E yX5_nextSite cX5_nextSite 5 (some .int) 1 23 [.ref 42, .int (nI s), .int (nI y)] sh I J R 0 0 (m_ret (some (.int (nI (nsF (sb I s y))))) sh I J R) := by
  refine Ct.of (lv := [some (.ref 42), some (.int (nI s)), some (.int (nI y)), none, none]) (by decide) (Nat.le_of_ble_eq_true rfl) rfl (fun X hX C => ?_)
  refine v_iconst 0 C dX5_nextSite_0 (by decide) ?_
  refine v_istore_n C dX5_nextSite_1 (Nat.le_of_ble_eq_true rfl) rfl ?_
  refine v_iconst 1 C dX5_nextSite_2 (by decide) ?_
  refine v_istore C dX5_nextSite_3 (Nat.le_of_ble_eq_true rfl) rfl ?_
  refine v_iload C dX5_nextSite_5 rfl ?_
  refine v_iconst 5 C dX5_nextSite_7 (by decide) ?_
  refine v_icmp_ge 38 C dX5_nextSite_8 (by decide) (fun h8 => absurd h8 (by decide)) (fun _ => ?_)
  refine v_aload_n C dX5_nextSite_11 rfl ?_
  refine v_iload_n C dX5_nextSite_12 rfl ?_
  refine v_iload_n C dX5_nextSite_13 rfl ?_
  refine v_iload C dX5_nextSite_14 rfl ?_
  refine v_callVi C (c_X5_sumBy (s := s) (y := y) (t := 1) hs h1 h2 (by decide)) mt_X5_sumBy lk_RX5_28 rfl rfl (hs.1 42 _ rfl) rfl rfl rfl rfl rfl dX5_nextSite_16 ?_
  refine v_aload_n C dX5_nextSite_19 rfl ?_
  refine v_iload_n C dX5_nextSite_20 rfl ?_
  refine v_iload_n C dX5_nextSite_21 rfl ?_
  refine v_iload_n C dX5_nextSite_22 rfl ?_
  refine v_callVi C (c_X5_sumBy (s := s) (y := y) (t := 0) hs h1 h2 (by decide)) mt_X5_sumBy lk_RX5_28 rfl rfl (hs.1 42 _ rfl) rfl rfl rfl rfl rfl dX5_nextSite_23 ?_
  refine v_icmp_ge 32 C dX5_nextSite_26 (by decide) (fun h26 => ?_) (fun h26 => ?_)
  · refine v_iinc 2 C dX5_nextSite_32 rfl (by decide) (Nat.le_of_ble_eq_true rfl) rfl ?_
    refine v_goto 5 C dX5_nextSite_35 (by decide) ?_
    refine v_iload C dX5_nextSite_5 rfl ?_
    refine v_iconst 5 C dX5_nextSite_7 (by decide) ?_
    refine v_icmp_ge 38 C dX5_nextSite_8 (by decide) (fun h8 => absurd h8 (by decide)) (fun _ => ?_)
    refine v_aload_n C dX5_nextSite_11 rfl ?_
    refine v_iload_n C dX5_nextSite_12 rfl ?_
    refine v_iload_n C dX5_nextSite_13 rfl ?_
    refine v_iload C dX5_nextSite_14 rfl ?_
    refine v_callVi C (c_X5_sumBy (s := s) (y := y) (t := 2) hs h1 h2 (by decide)) mt_X5_sumBy lk_RX5_28 rfl rfl (hs.1 42 _ rfl) rfl rfl rfl rfl rfl dX5_nextSite_16 ?_
    refine v_aload_n C dX5_nextSite_19 rfl ?_
    refine v_iload_n C dX5_nextSite_20 rfl ?_
    refine v_iload_n C dX5_nextSite_21 rfl ?_
    refine v_iload_n C dX5_nextSite_22 rfl ?_
    refine v_callVi C (c_X5_sumBy (s := s) (y := y) (t := 0) hs h1 h2 (by decide)) mt_X5_sumBy lk_RX5_28 rfl rfl (hs.1 42 _ rfl) rfl rfl rfl rfl rfl dX5_nextSite_23 ?_
    refine v_icmp_ge 32 C dX5_nextSite_26 (by decide) (fun h26 => ?_) (fun h26 => ?_)
    · refine v_iinc 3 C dX5_nextSite_32 rfl (by decide) (Nat.le_of_ble_eq_true rfl) rfl ?_
      refine v_goto 5 C dX5_nextSite_35 (by decide) ?_
      refine v_iload C dX5_nextSite_5 rfl ?_
      refine v_iconst 5 C dX5_nextSite_7 (by decide) ?_
      refine v_icmp_ge 38 C dX5_nextSite_8 (by decide) (fun h8 => absurd h8 (by decide)) (fun _ => ?_)
      refine v_aload_n C dX5_nextSite_11 rfl ?_
      refine v_iload_n C dX5_nextSite_12 rfl ?_
      refine v_iload_n C dX5_nextSite_13 rfl ?_
      refine v_iload C dX5_nextSite_14 rfl ?_
      refine v_callVi C (c_X5_sumBy (s := s) (y := y) (t := 3) hs h1 h2 (by decide)) mt_X5_sumBy lk_RX5_28 rfl rfl (hs.1 42 _ rfl) rfl rfl rfl rfl rfl dX5_nextSite_16 ?_
      refine v_aload_n C dX5_nextSite_19 rfl ?_
      refine v_iload_n C dX5_nextSite_20 rfl ?_
      refine v_iload_n C dX5_nextSite_21 rfl ?_
      refine v_iload_n C dX5_nextSite_22 rfl ?_
      refine v_callVi C (c_X5_sumBy (s := s) (y := y) (t := 0) hs h1 h2 (by decide)) mt_X5_sumBy lk_RX5_28 rfl rfl (hs.1 42 _ rfl) rfl rfl rfl rfl rfl dX5_nextSite_23 ?_
      refine v_icmp_ge 32 C dX5_nextSite_26 (by decide) (fun h26 => ?_) (fun h26 => ?_)
      · refine v_iinc 4 C dX5_nextSite_32 rfl (by decide) (Nat.le_of_ble_eq_true rfl) rfl ?_
        refine v_goto 5 C dX5_nextSite_35 (by decide) ?_
        refine v_iload C dX5_nextSite_5 rfl ?_
        refine v_iconst 5 C dX5_nextSite_7 (by decide) ?_
        refine v_icmp_ge 38 C dX5_nextSite_8 (by decide) (fun h8 => absurd h8 (by decide)) (fun _ => ?_)
        refine v_aload_n C dX5_nextSite_11 rfl ?_
        refine v_iload_n C dX5_nextSite_12 rfl ?_
        refine v_iload_n C dX5_nextSite_13 rfl ?_
        refine v_iload C dX5_nextSite_14 rfl ?_
        refine v_callVi C (c_X5_sumBy (s := s) (y := y) (t := 4) hs h1 h2 (by decide)) mt_X5_sumBy lk_RX5_28 rfl rfl (hs.1 42 _ rfl) rfl rfl rfl rfl rfl dX5_nextSite_16 ?_
        refine v_aload_n C dX5_nextSite_19 rfl ?_
        refine v_iload_n C dX5_nextSite_20 rfl ?_
        refine v_iload_n C dX5_nextSite_21 rfl ?_
        refine v_iload_n C dX5_nextSite_22 rfl ?_
        refine v_callVi C (c_X5_sumBy (s := s) (y := y) (t := 0) hs h1 h2 (by decide)) mt_X5_sumBy lk_RX5_28 rfl rfl (hs.1 42 _ rfl) rfl rfl rfl rfl rfl dX5_nextSite_23 ?_
        refine v_icmp_ge 32 C dX5_nextSite_26 (by decide) (fun h26 => ?_) (fun h26 => ?_)
        · refine v_iinc 5 C dX5_nextSite_32 rfl (by decide) (Nat.le_of_ble_eq_true rfl) rfl ?_
          refine v_goto 5 C dX5_nextSite_35 (by decide) ?_
          refine v_iload C dX5_nextSite_5 rfl ?_
          refine v_iconst 5 C dX5_nextSite_7 (by decide) ?_
          refine v_icmp_ge 38 C dX5_nextSite_8 (by decide) (fun _ => ?_) (fun h8 => absurd h8 (by decide))
          refine v_iload_n C dX5_nextSite_38 rfl ?_
          exact v_iret C dX5_nextSite_39 ⟨by simp [nsF, *]; try rfl, rfl, rfl, rfl, rfl⟩
        · refine v_iload C dX5_nextSite_29 rfl ?_
          refine v_istore_n C dX5_nextSite_31 (Nat.le_of_ble_eq_true rfl) rfl ?_
          refine v_iinc 5 C dX5_nextSite_32 rfl (by decide) (Nat.le_of_ble_eq_true rfl) rfl ?_
          refine v_goto 5 C dX5_nextSite_35 (by decide) ?_
          refine v_iload C dX5_nextSite_5 rfl ?_
          refine v_iconst 5 C dX5_nextSite_7 (by decide) ?_
          refine v_icmp_ge 38 C dX5_nextSite_8 (by decide) (fun _ => ?_) (fun h8 => absurd h8 (by decide))
          refine v_iload_n C dX5_nextSite_38 rfl ?_
          exact v_iret C dX5_nextSite_39 ⟨by simp [nsF, *]; try rfl, rfl, rfl, rfl, rfl⟩
      · refine v_iload C dX5_nextSite_29 rfl ?_
        refine v_istore_n C dX5_nextSite_31 (Nat.le_of_ble_eq_true rfl) rfl ?_
        refine v_iinc 4 C dX5_nextSite_32 rfl (by decide) (Nat.le_of_ble_eq_true rfl) rfl ?_
        refine v_goto 5 C dX5_nextSite_35 (by decide) ?_
        refine v_iload C dX5_nextSite_5 rfl ?_
        refine v_iconst 5 C dX5_nextSite_7 (by decide) ?_
        refine v_icmp_ge 38 C dX5_nextSite_8 (by decide) (fun h8 => absurd h8 (by decide)) (fun _ => ?_)
        refine v_aload_n C dX5_nextSite_11 rfl ?_
        refine v_iload_n C dX5_nextSite_12 rfl ?_
        refine v_iload_n C dX5_nextSite_13 rfl ?_
        refine v_iload C dX5_nextSite_14 rfl ?_
        refine v_callVi C (c_X5_sumBy (s := s) (y := y) (t := 4) hs h1 h2 (by decide)) mt_X5_sumBy lk_RX5_28 rfl rfl (hs.1 42 _ rfl) rfl rfl rfl rfl rfl dX5_nextSite_16 ?_
        refine v_aload_n C dX5_nextSite_19 rfl ?_
        refine v_iload_n C dX5_nextSite_20 rfl ?_
        refine v_iload_n C dX5_nextSite_21 rfl ?_
        refine v_iload_n C dX5_nextSite_22 rfl ?_
        refine v_callVi C (c_X5_sumBy (s := s) (y := y) (t := 3) hs h1 h2 (by decide)) mt_X5_sumBy lk_RX5_28 rfl rfl (hs.1 42 _ rfl) rfl rfl rfl rfl rfl dX5_nextSite_23 ?_
        refine v_icmp_ge 32 C dX5_nextSite_26 (by decide) (fun h26 => ?_) (fun h26 => ?_)
        · refine v_iinc 5 C dX5_nextSite_32 rfl (by decide) (Nat.le_of_ble_eq_true rfl) rfl ?_
          refine v_goto 5 C dX5_nextSite_35 (by decide) ?_
          refine v_iload C dX5_nextSite_5 rfl ?_
          refine v_iconst 5 C dX5_nextSite_7 (by decide) ?_
          refine v_icmp_ge 38 C dX5_nextSite_8 (by decide) (fun _ => ?_) (fun h8 => absurd h8 (by decide))
          refine v_iload_n C dX5_nextSite_38 rfl ?_
          exact v_iret C dX5_nextSite_39 ⟨by simp [nsF, *]; try rfl, rfl, rfl, rfl, rfl⟩
        · refine v_iload C dX5_nextSite_29 rfl ?_
          refine v_istore_n C dX5_nextSite_31 (Nat.le_of_ble_eq_true rfl) rfl ?_
          refine v_iinc 5 C dX5_nextSite_32 rfl (by decide) (Nat.le_of_ble_eq_true rfl) rfl ?_
          refine v_goto 5 C dX5_nextSite_35 (by decide) ?_
          refine v_iload C dX5_nextSite_5 rfl ?_
          refine v_iconst 5 C dX5_nextSite_7 (by decide) ?_
          refine v_icmp_ge 38 C dX5_nextSite_8 (by decide) (fun _ => ?_) (fun h8 => absurd h8 (by decide))
          refine v_iload_n C dX5_nextSite_38 rfl ?_
          exact v_iret C dX5_nextSite_39 ⟨by simp [nsF, *]; try rfl, rfl, rfl, rfl, rfl⟩
    · refine v_iload C dX5_nextSite_29 rfl ?_
      refine v_istore_n C dX5_nextSite_31 (Nat.le_of_ble_eq_true rfl) rfl ?_
      refine v_iinc 3 C dX5_nextSite_32 rfl (by decide) (Nat.le_of_ble_eq_true rfl) rfl ?_
      refine v_goto 5 C dX5_nextSite_35 (by decide) ?_
      refine v_iload C dX5_nextSite_5 rfl ?_
      refine v_iconst 5 C dX5_nextSite_7 (by decide) ?_
      refine v_icmp_ge 38 C dX5_nextSite_8 (by decide) (fun h8 => absurd h8 (by decide)) (fun _ => ?_)
      refine v_aload_n C dX5_nextSite_11 rfl ?_
      refine v_iload_n C dX5_nextSite_12 rfl ?_
      refine v_iload_n C dX5_nextSite_13 rfl ?_
      refine v_iload C dX5_nextSite_14 rfl ?_
      refine v_callVi C (c_X5_sumBy (s := s) (y := y) (t := 3) hs h1 h2 (by decide)) mt_X5_sumBy lk_RX5_28 rfl rfl (hs.1 42 _ rfl) rfl rfl rfl rfl rfl dX5_nextSite_16 ?_
      refine v_aload_n C dX5_nextSite_19 rfl ?_
      refine v_iload_n C dX5_nextSite_20 rfl ?_
      refine v_iload_n C dX5_nextSite_21 rfl ?_
      refine v_iload_n C dX5_nextSite_22 rfl ?_
      refine v_callVi C (c_X5_sumBy (s := s) (y := y) (t := 2) hs h1 h2 (by decide)) mt_X5_sumBy lk_RX5_28 rfl rfl (hs.1 42 _ rfl) rfl rfl rfl rfl rfl dX5_nextSite_23 ?_
      refine v_icmp_ge 32 C dX5_nextSite_26 (by decide) (fun h26 => ?_) (fun h26 => ?_)
      · refine v_iinc 4 C dX5_nextSite_32 rfl (by decide) (Nat.le_of_ble_eq_true rfl) rfl ?_
        refine v_goto 5 C dX5_nextSite_35 (by decide) ?_
        refine v_iload C dX5_nextSite_5 rfl ?_
        refine v_iconst 5 C dX5_nextSite_7 (by decide) ?_
        refine v_icmp_ge 38 C dX5_nextSite_8 (by decide) (fun h8 => absurd h8 (by decide)) (fun _ => ?_)
        refine v_aload_n C dX5_nextSite_11 rfl ?_
        refine v_iload_n C dX5_nextSite_12 rfl ?_
        refine v_iload_n C dX5_nextSite_13 rfl ?_
        refine v_iload C dX5_nextSite_14 rfl ?_
        refine v_callVi C (c_X5_sumBy (s := s) (y := y) (t := 4) hs h1 h2 (by decide)) mt_X5_sumBy lk_RX5_28 rfl rfl (hs.1 42 _ rfl) rfl rfl rfl rfl rfl dX5_nextSite_16 ?_
        refine v_aload_n C dX5_nextSite_19 rfl ?_
        refine v_iload_n C dX5_nextSite_20 rfl ?_
        refine v_iload_n C dX5_nextSite_21 rfl ?_
        refine v_iload_n C dX5_nextSite_22 rfl ?_
        refine v_callVi C (c_X5_sumBy (s := s) (y := y) (t := 2) hs h1 h2 (by decide)) mt_X5_sumBy lk_RX5_28 rfl rfl (hs.1 42 _ rfl) rfl rfl rfl rfl rfl dX5_nextSite_23 ?_
        refine v_icmp_ge 32 C dX5_nextSite_26 (by decide) (fun h26 => ?_) (fun h26 => ?_)
        · refine v_iinc 5 C dX5_nextSite_32 rfl (by decide) (Nat.le_of_ble_eq_true rfl) rfl ?_
          refine v_goto 5 C dX5_nextSite_35 (by decide) ?_
          refine v_iload C dX5_nextSite_5 rfl ?_
          refine v_iconst 5 C dX5_nextSite_7 (by decide) ?_
          refine v_icmp_ge 38 C dX5_nextSite_8 (by decide) (fun _ => ?_) (fun h8 => absurd h8 (by decide))
          refine v_iload_n C dX5_nextSite_38 rfl ?_
          exact v_iret C dX5_nextSite_39 ⟨by simp [nsF, *]; try rfl, rfl, rfl, rfl, rfl⟩
        · refine v_iload C dX5_nextSite_29 rfl ?_
          refine v_istore_n C dX5_nextSite_31 (Nat.le_of_ble_eq_true rfl) rfl ?_
          refine v_iinc 5 C dX5_nextSite_32 rfl (by decide) (Nat.le_of_ble_eq_true rfl) rfl ?_
          refine v_goto 5 C dX5_nextSite_35 (by decide) ?_
          refine v_iload C dX5_nextSite_5 rfl ?_
          refine v_iconst 5 C dX5_nextSite_7 (by decide) ?_
          refine v_icmp_ge 38 C dX5_nextSite_8 (by decide) (fun _ => ?_) (fun h8 => absurd h8 (by decide))
          refine v_iload_n C dX5_nextSite_38 rfl ?_
          exact v_iret C dX5_nextSite_39 ⟨by simp [nsF, *]; try rfl, rfl, rfl, rfl, rfl⟩
      · refine v_iload C dX5_nextSite_29 rfl ?_
        refine v_istore_n C dX5_nextSite_31 (Nat.le_of_ble_eq_true rfl) rfl ?_
        refine v_iinc 4 C dX5_nextSite_32 rfl (by decide) (Nat.le_of_ble_eq_true rfl) rfl ?_
        refine v_goto 5 C dX5_nextSite_35 (by decide) ?_
        refine v_iload C dX5_nextSite_5 rfl ?_
        refine v_iconst 5 C dX5_nextSite_7 (by decide) ?_
        refine v_icmp_ge 38 C dX5_nextSite_8 (by decide) (fun h8 => absurd h8 (by decide)) (fun _ => ?_)
        refine v_aload_n C dX5_nextSite_11 rfl ?_
        refine v_iload_n C dX5_nextSite_12 rfl ?_
        refine v_iload_n C dX5_nextSite_13 rfl ?_
        refine v_iload C dX5_nextSite_14 rfl ?_
        refine v_callVi C (c_X5_sumBy (s := s) (y := y) (t := 4) hs h1 h2 (by decide)) mt_X5_sumBy lk_RX5_28 rfl rfl (hs.1 42 _ rfl) rfl rfl rfl rfl rfl dX5_nextSite_16 ?_
        refine v_aload_n C dX5_nextSite_19 rfl ?_
        refine v_iload_n C dX5_nextSite_20 rfl ?_
        refine v_iload_n C dX5_nextSite_21 rfl ?_
        refine v_iload_n C dX5_nextSite_22 rfl ?_
        refine v_callVi C (c_X5_sumBy (s := s) (y := y) (t := 3) hs h1 h2 (by decide)) mt_X5_sumBy lk_RX5_28 rfl rfl (hs.1 42 _ rfl) rfl rfl rfl rfl rfl dX5_nextSite_23 ?_
        refine v_icmp_ge 32 C dX5_nextSite_26 (by decide) (fun h26 => ?_) (fun h26 => ?_)
        · refine v_iinc 5 C dX5_nextSite_32 rfl (by decide) (Nat.le_of_ble_eq_true rfl) rfl ?_
          refine v_goto 5 C dX5_nextSite_35 (by decide) ?_
          refine v_iload C dX5_nextSite_5 rfl ?_
          refine v_iconst 5 C dX5_nextSite_7 (by decide) ?_
          refine v_icmp_ge 38 C dX5_nextSite_8 (by decide) (fun _ => ?_) (fun h8 => absurd h8 (by decide))
          refine v_iload_n C dX5_nextSite_38 rfl ?_
          exact v_iret C dX5_nextSite_39 ⟨by simp [nsF, *]; try rfl, rfl, rfl, rfl, rfl⟩
        · refine v_iload C dX5_nextSite_29 rfl ?_
          refine v_istore_n C dX5_nextSite_31 (Nat.le_of_ble_eq_true rfl) rfl ?_
          refine v_iinc 5 C dX5_nextSite_32 rfl (by decide) (Nat.le_of_ble_eq_true rfl) rfl ?_
          refine v_goto 5 C dX5_nextSite_35 (by decide) ?_
          refine v_iload C dX5_nextSite_5 rfl ?_
          refine v_iconst 5 C dX5_nextSite_7 (by decide) ?_
          refine v_icmp_ge 38 C dX5_nextSite_8 (by decide) (fun _ => ?_) (fun h8 => absurd h8 (by decide))
          refine v_iload_n C dX5_nextSite_38 rfl ?_
          exact v_iret C dX5_nextSite_39 ⟨by simp [nsF, *]; try rfl, rfl, rfl, rfl, rfl⟩
  · refine v_iload C dX5_nextSite_29 rfl ?_
    refine v_istore_n C dX5_nextSite_31 (Nat.le_of_ble_eq_true rfl) rfl ?_
    refine v_iinc 2 C dX5_nextSite_32 rfl (by decide) (Nat.le_of_ble_eq_true rfl) rfl ?_
    refine v_goto 5 C dX5_nextSite_35 (by decide) ?_
    refine v_iload C dX5_nextSite_5 rfl ?_
    refine v_iconst 5 C dX5_nextSite_7 (by decide) ?_
    refine v_icmp_ge 38 C dX5_nextSite_8 (by decide) (fun h8 => absurd h8 (by decide)) (fun _ => ?_)
    refine v_aload_n C dX5_nextSite_11 rfl ?_
    refine v_iload_n C dX5_nextSite_12 rfl ?_
    refine v_iload_n C dX5_nextSite_13 rfl ?_
    refine v_iload C dX5_nextSite_14 rfl ?_
    refine v_callVi C (c_X5_sumBy (s := s) (y := y) (t := 2) hs h1 h2 (by decide)) mt_X5_sumBy lk_RX5_28 rfl rfl (hs.1 42 _ rfl) rfl rfl rfl rfl rfl dX5_nextSite_16 ?_
    refine v_aload_n C dX5_nextSite_19 rfl ?_
    refine v_iload_n C dX5_nextSite_20 rfl ?_
    refine v_iload_n C dX5_nextSite_21 rfl ?_
    refine v_iload_n C dX5_nextSite_22 rfl ?_
    refine v_callVi C (c_X5_sumBy (s := s) (y := y) (t := 1) hs h1 h2 (by decide)) mt_X5_sumBy lk_RX5_28 rfl rfl (hs.1 42 _ rfl) rfl rfl rfl rfl rfl dX5_nextSite_23 ?_
    refine v_icmp_ge 32 C dX5_nextSite_26 (by decide) (fun h26 => ?_) (fun h26 => ?_)
    · refine v_iinc 3 C dX5_nextSite_32 rfl (by decide) (Nat.le_of_ble_eq_true rfl) rfl ?_
      refine v_goto 5 C dX5_nextSite_35 (by decide) ?_
      refine v_iload C dX5_nextSite_5 rfl ?_
      refine v_iconst 5 C dX5_nextSite_7 (by decide) ?_
      refine v_icmp_ge 38 C dX5_nextSite_8 (by decide) (fun h8 => absurd h8 (by decide)) (fun _ => ?_)
      refine v_aload_n C dX5_nextSite_11 rfl ?_
      refine v_iload_n C dX5_nextSite_12 rfl ?_
      refine v_iload_n C dX5_nextSite_13 rfl ?_
      refine v_iload C dX5_nextSite_14 rfl ?_
      refine v_callVi C (c_X5_sumBy (s := s) (y := y) (t := 3) hs h1 h2 (by decide)) mt_X5_sumBy lk_RX5_28 rfl rfl (hs.1 42 _ rfl) rfl rfl rfl rfl rfl dX5_nextSite_16 ?_
      refine v_aload_n C dX5_nextSite_19 rfl ?_
      refine v_iload_n C dX5_nextSite_20 rfl ?_
      refine v_iload_n C dX5_nextSite_21 rfl ?_
      refine v_iload_n C dX5_nextSite_22 rfl ?_
      refine v_callVi C (c_X5_sumBy (s := s) (y := y) (t := 1) hs h1 h2 (by decide)) mt_X5_sumBy lk_RX5_28 rfl rfl (hs.1 42 _ rfl) rfl rfl rfl rfl rfl dX5_nextSite_23 ?_
      refine v_icmp_ge 32 C dX5_nextSite_26 (by decide) (fun h26 => ?_) (fun h26 => ?_)
      · refine v_iinc 4 C dX5_nextSite_32 rfl (by decide) (Nat.le_of_ble_eq_true rfl) rfl ?_
        refine v_goto 5 C dX5_nextSite_35 (by decide) ?_
        refine v_iload C dX5_nextSite_5 rfl ?_
        refine v_iconst 5 C dX5_nextSite_7 (by decide) ?_
        refine v_icmp_ge 38 C dX5_nextSite_8 (by decide) (fun h8 => absurd h8 (by decide)) (fun _ => ?_)
        refine v_aload_n C dX5_nextSite_11 rfl ?_
        refine v_iload_n C dX5_nextSite_12 rfl ?_
        refine v_iload_n C dX5_nextSite_13 rfl ?_
        refine v_iload C dX5_nextSite_14 rfl ?_
        refine v_callVi C (c_X5_sumBy (s := s) (y := y) (t := 4) hs h1 h2 (by decide)) mt_X5_sumBy lk_RX5_28 rfl rfl (hs.1 42 _ rfl) rfl rfl rfl rfl rfl dX5_nextSite_16 ?_
        refine v_aload_n C dX5_nextSite_19 rfl ?_
        refine v_iload_n C dX5_nextSite_20 rfl ?_
        refine v_iload_n C dX5_nextSite_21 rfl ?_
        refine v_iload_n C dX5_nextSite_22 rfl ?_
        refine v_callVi C (c_X5_sumBy (s := s) (y := y) (t := 1) hs h1 h2 (by decide)) mt_X5_sumBy lk_RX5_28 rfl rfl (hs.1 42 _ rfl) rfl rfl rfl rfl rfl dX5_nextSite_23 ?_
        refine v_icmp_ge 32 C dX5_nextSite_26 (by decide) (fun h26 => ?_) (fun h26 => ?_)
        · refine v_iinc 5 C dX5_nextSite_32 rfl (by decide) (Nat.le_of_ble_eq_true rfl) rfl ?_
          refine v_goto 5 C dX5_nextSite_35 (by decide) ?_
          refine v_iload C dX5_nextSite_5 rfl ?_
          refine v_iconst 5 C dX5_nextSite_7 (by decide) ?_
          refine v_icmp_ge 38 C dX5_nextSite_8 (by decide) (fun _ => ?_) (fun h8 => absurd h8 (by decide))
          refine v_iload_n C dX5_nextSite_38 rfl ?_
          exact v_iret C dX5_nextSite_39 ⟨by simp [nsF, *]; try rfl, rfl, rfl, rfl, rfl⟩
        · refine v_iload C dX5_nextSite_29 rfl ?_
          refine v_istore_n C dX5_nextSite_31 (Nat.le_of_ble_eq_true rfl) rfl ?_
          refine v_iinc 5 C dX5_nextSite_32 rfl (by decide) (Nat.le_of_ble_eq_true rfl) rfl ?_
          refine v_goto 5 C dX5_nextSite_35 (by decide) ?_
          refine v_iload C dX5_nextSite_5 rfl ?_
          refine v_iconst 5 C dX5_nextSite_7 (by decide) ?_
          refine v_icmp_ge 38 C dX5_nextSite_8 (by decide) (fun _ => ?_) (fun h8 => absurd h8 (by decide))
          refine v_iload_n C dX5_nextSite_38 rfl ?_
          exact v_iret C dX5_nextSite_39 ⟨by simp [nsF, *]; try rfl, rfl, rfl, rfl, rfl⟩
      · refine v_iload C dX5_nextSite_29 rfl ?_
        refine v_istore_n C dX5_nextSite_31 (Nat.le_of_ble_eq_true rfl) rfl ?_
        refine v_iinc 4 C dX5_nextSite_32 rfl (by decide) (Nat.le_of_ble_eq_true rfl) rfl ?_
        refine v_goto 5 C dX5_nextSite_35 (by decide) ?_
        refine v_iload C dX5_nextSite_5 rfl ?_
        refine v_iconst 5 C dX5_nextSite_7 (by decide) ?_
        refine v_icmp_ge 38 C dX5_nextSite_8 (by decide) (fun h8 => absurd h8 (by decide)) (fun _ => ?_)
        refine v_aload_n C dX5_nextSite_11 rfl ?_
        refine v_iload_n C dX5_nextSite_12 rfl ?_
        refine v_iload_n C dX5_nextSite_13 rfl ?_
        refine v_iload C dX5_nextSite_14 rfl ?_
        refine v_callVi C (c_X5_sumBy (s := s) (y := y) (t := 4) hs h1 h2 (by decide)) mt_X5_sumBy lk_RX5_28 rfl rfl (hs.1 42 _ rfl) rfl rfl rfl rfl rfl dX5_nextSite_16 ?_
        refine v_aload_n C dX5_nextSite_19 rfl ?_
        refine v_iload_n C dX5_nextSite_20 rfl ?_
        refine v_iload_n C dX5_nextSite_21 rfl ?_
        refine v_iload_n C dX5_nextSite_22 rfl ?_
        refine v_callVi C (c_X5_sumBy (s := s) (y := y) (t := 3) hs h1 h2 (by decide)) mt_X5_sumBy lk_RX5_28 rfl rfl (hs.1 42 _ rfl) rfl rfl rfl rfl rfl dX5_nextSite_23 ?_
        refine v_icmp_ge 32 C dX5_nextSite_26 (by decide) (fun h26 => ?_) (fun h26 => ?_)
        · refine v_iinc 5 C dX5_nextSite_32 rfl (by decide) (Nat.le_of_ble_eq_true rfl) rfl ?_
          refine v_goto 5 C dX5_nextSite_35 (by decide) ?_
          refine v_iload C dX5_nextSite_5 rfl ?_
          refine v_iconst 5 C dX5_nextSite_7 (by decide) ?_
          refine v_icmp_ge 38 C dX5_nextSite_8 (by decide) (fun _ => ?_) (fun h8 => absurd h8 (by decide))
          refine v_iload_n C dX5_nextSite_38 rfl ?_
          exact v_iret C dX5_nextSite_39 ⟨by simp [nsF, *]; try rfl, rfl, rfl, rfl, rfl⟩
        · refine v_iload C dX5_nextSite_29 rfl ?_
          refine v_istore_n C dX5_nextSite_31 (Nat.le_of_ble_eq_true rfl) rfl ?_
          refine v_iinc 5 C dX5_nextSite_32 rfl (by decide) (Nat.le_of_ble_eq_true rfl) rfl ?_
          refine v_goto 5 C dX5_nextSite_35 (by decide) ?_
          refine v_iload C dX5_nextSite_5 rfl ?_
          refine v_iconst 5 C dX5_nextSite_7 (by decide) ?_
          refine v_icmp_ge 38 C dX5_nextSite_8 (by decide) (fun _ => ?_) (fun h8 => absurd h8 (by decide))
          refine v_iload_n C dX5_nextSite_38 rfl ?_
          exact v_iret C dX5_nextSite_39 ⟨by simp [nsF, *]; try rfl, rfl, rfl, rfl, rfl⟩
    · refine v_iload C dX5_nextSite_29 rfl ?_
      refine v_istore_n C dX5_nextSite_31 (Nat.le_of_ble_eq_true rfl) rfl ?_
      refine v_iinc 3 C dX5_nextSite_32 rfl (by decide) (Nat.le_of_ble_eq_true rfl) rfl ?_
      refine v_goto 5 C dX5_nextSite_35 (by decide) ?_
      refine v_iload C dX5_nextSite_5 rfl ?_
      refine v_iconst 5 C dX5_nextSite_7 (by decide) ?_
      refine v_icmp_ge 38 C dX5_nextSite_8 (by decide) (fun h8 => absurd h8 (by decide)) (fun _ => ?_)
      refine v_aload_n C dX5_nextSite_11 rfl ?_
      refine v_iload_n C dX5_nextSite_12 rfl ?_
      refine v_iload_n C dX5_nextSite_13 rfl ?_
      refine v_iload C dX5_nextSite_14 rfl ?_
      refine v_callVi C (c_X5_sumBy (s := s) (y := y) (t := 3) hs h1 h2 (by decide)) mt_X5_sumBy lk_RX5_28 rfl rfl (hs.1 42 _ rfl) rfl rfl rfl rfl rfl dX5_nextSite_16 ?_
      refine v_aload_n C dX5_nextSite_19 rfl ?_
      refine v_iload_n C dX5_nextSite_20 rfl ?_
      refine v_iload_n C dX5_nextSite_21 rfl ?_
      refine v_iload_n C dX5_nextSite_22 rfl ?_
      refine v_callVi C (c_X5_sumBy (s := s) (y := y) (t := 2) hs h1 h2 (by decide)) mt_X5_sumBy lk_RX5_28 rfl rfl (hs.1 42 _ rfl) rfl rfl rfl rfl rfl dX5_nextSite_23 ?_
      refine v_icmp_ge 32 C dX5_nextSite_26 (by decide) (fun h26 => ?_) (fun h26 => ?_)
      · refine v_iinc 4 C dX5_nextSite_32 rfl (by decide) (Nat.le_of_ble_eq_true rfl) rfl ?_
        refine v_goto 5 C dX5_nextSite_35 (by decide) ?_
        refine v_iload C dX5_nextSite_5 rfl ?_
        refine v_iconst 5 C dX5_nextSite_7 (by decide) ?_
        refine v_icmp_ge 38 C dX5_nextSite_8 (by decide) (fun h8 => absurd h8 (by decide)) (fun _ => ?_)
        refine v_aload_n C dX5_nextSite_11 rfl ?_
        refine v_iload_n C dX5_nextSite_12 rfl ?_
        refine v_iload_n C dX5_nextSite_13 rfl ?_
        refine v_iload C dX5_nextSite_14 rfl ?_
        refine v_callVi C (c_X5_sumBy (s := s) (y := y) (t := 4) hs h1 h2 (by decide)) mt_X5_sumBy lk_RX5_28 rfl rfl (hs.1 42 _ rfl) rfl rfl rfl rfl rfl dX5_nextSite_16 ?_
        refine v_aload_n C dX5_nextSite_19 rfl ?_
        refine v_iload_n C dX5_nextSite_20 rfl ?_
        refine v_iload_n C dX5_nextSite_21 rfl ?_
        refine v_iload_n C dX5_nextSite_22 rfl ?_
        refine v_callVi C (c_X5_sumBy (s := s) (y := y) (t := 2) hs h1 h2 (by decide)) mt_X5_sumBy lk_RX5_28 rfl rfl (hs.1 42 _ rfl) rfl rfl rfl rfl rfl dX5_nextSite_23 ?_
        refine v_icmp_ge 32 C dX5_nextSite_26 (by decide) (fun h26 => ?_) (fun h26 => ?_)
        · refine v_iinc 5 C dX5_nextSite_32 rfl (by decide) (Nat.le_of_ble_eq_true rfl) rfl ?_
          refine v_goto 5 C dX5_nextSite_35 (by decide) ?_
          refine v_iload C dX5_nextSite_5 rfl ?_
          refine v_iconst 5 C dX5_nextSite_7 (by decide) ?_
          refine v_icmp_ge 38 C dX5_nextSite_8 (by decide) (fun _ => ?_) (fun h8 => absurd h8 (by decide))
          refine v_iload_n C dX5_nextSite_38 rfl ?_
          exact v_iret C dX5_nextSite_39 ⟨by simp [nsF, *]; try rfl, rfl, rfl, rfl, rfl⟩
        · refine v_iload C dX5_nextSite_29 rfl ?_
          refine v_istore_n C dX5_nextSite_31 (Nat.le_of_ble_eq_true rfl) rfl ?_
          refine v_iinc 5 C dX5_nextSite_32 rfl (by decide) (Nat.le_of_ble_eq_true rfl) rfl ?_
          refine v_goto 5 C dX5_nextSite_35 (by decide) ?_
          refine v_iload C dX5_nextSite_5 rfl ?_
          refine v_iconst 5 C dX5_nextSite_7 (by decide) ?_
          refine v_icmp_ge 38 C dX5_nextSite_8 (by decide) (fun _ => ?_) (fun h8 => absurd h8 (by decide))
          refine v_iload_n C dX5_nextSite_38 rfl ?_
          exact v_iret C dX5_nextSite_39 ⟨by simp [nsF, *]; try rfl, rfl, rfl, rfl, rfl⟩
      · refine v_iload C dX5_nextSite_29 rfl ?_
        refine v_istore_n C dX5_nextSite_31 (Nat.le_of_ble_eq_true rfl) rfl ?_
        refine v_iinc 4 C dX5_nextSite_32 rfl (by decide) (Nat.le_of_ble_eq_true rfl) rfl ?_
        refine v_goto 5 C dX5_nextSite_35 (by decide) ?_
        refine v_iload C dX5_nextSite_5 rfl ?_
        refine v_iconst 5 C dX5_nextSite_7 (by decide) ?_
        refine v_icmp_ge 38 C dX5_nextSite_8 (by decide) (fun h8 => absurd h8 (by decide)) (fun _ => ?_)
        refine v_aload_n C dX5_nextSite_11 rfl ?_
        refine v_iload_n C dX5_nextSite_12 rfl ?_
        refine v_iload_n C dX5_nextSite_13 rfl ?_
        refine v_iload C dX5_nextSite_14 rfl ?_
        refine v_callVi C (c_X5_sumBy (s := s) (y := y) (t := 4) hs h1 h2 (by decide)) mt_X5_sumBy lk_RX5_28 rfl rfl (hs.1 42 _ rfl) rfl rfl rfl rfl rfl dX5_nextSite_16 ?_
        refine v_aload_n C dX5_nextSite_19 rfl ?_
        refine v_iload_n C dX5_nextSite_20 rfl ?_
        refine v_iload_n C dX5_nextSite_21 rfl ?_
        refine v_iload_n C dX5_nextSite_22 rfl ?_
        refine v_callVi C (c_X5_sumBy (s := s) (y := y) (t := 3) hs h1 h2 (by decide)) mt_X5_sumBy lk_RX5_28 rfl rfl (hs.1 42 _ rfl) rfl rfl rfl rfl rfl dX5_nextSite_23 ?_
        refine v_icmp_ge 32 C dX5_nextSite_26 (by decide) (fun h26 => ?_) (fun h26 => ?_)
        · refine v_iinc 5 C dX5_nextSite_32 rfl (by decide) (Nat.le_of_ble_eq_true rfl) rfl ?_
          refine v_goto 5 C dX5_nextSite_35 (by decide) ?_
          refine v_iload C dX5_nextSite_5 rfl ?_
          refine v_iconst 5 C dX5_nextSite_7 (by decide) ?_
          refine v_icmp_ge 38 C dX5_nextSite_8 (by decide) (fun _ => ?_) (fun h8 => absurd h8 (by decide))
          refine v_iload_n C dX5_nextSite_38 rfl ?_
          exact v_iret C dX5_nextSite_39 ⟨by simp [nsF, *]; try rfl, rfl, rfl, rfl, rfl⟩
        · refine v_iload C dX5_nextSite_29 rfl ?_
          refine v_istore_n C dX5_nextSite_31 (Nat.le_of_ble_eq_true rfl) rfl ?_
          refine v_iinc 5 C dX5_nextSite_32 rfl (by decide) (Nat.le_of_ble_eq_true rfl) rfl ?_
          refine v_goto 5 C dX5_nextSite_35 (by decide) ?_
          refine v_iload C dX5_nextSite_5 rfl ?_
          refine v_iconst 5 C dX5_nextSite_7 (by decide) ?_
          refine v_icmp_ge 38 C dX5_nextSite_8 (by decide) (fun _ => ?_) (fun h8 => absurd h8 (by decide))
          refine v_iload_n C dX5_nextSite_38 rfl ?_
          exact v_iret C dX5_nextSite_39 ⟨by simp [nsF, *]; try rfl, rfl, rfl, rfl, rfl⟩

theorem nI_decm (m : Nat) : nI m + Int32.ofInt (-1) = nI m - 1 := by
  rw [show Int32.ofInt (-1) = -1 by decide, Int32.sub_eq_add_neg]

set_option maxHeartbeats 4000000 in
set_option maxRecDepth 100000 in
theorem c_X5_plan {lnc : Launch} {E : En} {sh : List Sh} {I : IM} {J : JM} {R : RM} {mm s0 : Nat} (hs : St sh R) (h1 : 1 ≤ mm) (h2 : mm ≤ 10) (h3 : s0 < 5) : Ct lnc E yX5_plan cX5_plan 6 (some .int) 2 47 [.ref 42, .int (nI s0), .int (nI mm)] sh I J R 0 0 (m_ret (some (.int (planR I mm s0))) sh (planI I mm s0) J R) := by
  refine Ct.of (lv := [some (.ref 42), some (.int (nI s0)), some (.int (nI mm)), none, none, none]) (by decide) (Nat.le_of_ble_eq_true rfl) rfl (fun X hX C => ?_)
  have lp1 : ∀ (fuel m : Nat) (Ii : IM), m < fuel → m ≤ mm → V E X (m_Z E X (m_ret (some (.int (planR I mm s0))) sh (planI I mm s0) J R) 0 0) 0 0 sh (planL mm m Ii) J R 85 [some (.ref 42), some (.int (nI s0)), some (.int (nI mm)), none, none, none] [] → V E X (m_Z E X (m_ret (some (.int (planR I mm s0))) sh (planI I mm s0) J R) 0 0) 0 0 sh Ii J R 4 [some (.ref 42), some (.int (nI s0)), some (.int (nI mm)), some (.int (nI m - 1)), none, none] [] := by
    intro fuel
    induction fuel with
    | zero => intro m Ii hfuel; exact absurd hfuel (Nat.not_lt_zero _)
    | succ fuel ih =>
      intro m Ii hfuel hm hx
      refine v_iload_n C dX5_plan_4 rfl ?_
      refine v_if_lt 85 C dX5_plan_5 (by decide) (fun h5 => ?_) (fun h5 => ?_)
      · obtain rfl := nI_neg h5 (by omega)
        exact v_drop 3 hx
      · obtain ⟨m, rfl⟩ := nI_nneg h5
        rw [nI_m1]
        by_cases hy : m + 1 < mm
        · refine v_iconst 0 C dX5_plan_8 (by decide) ?_
          refine v_istore C dX5_plan_9 (Nat.le_of_ble_eq_true rfl) rfl ?_
          refine v_iload C dX5_plan_11 rfl ?_
          refine v_iconst 5 C dX5_plan_13 (by decide) ?_
          refine v_icmp_ge 79 C dX5_plan_14 (by decide) (fun h14 => absurd h14 (by decide)) (fun _ => ?_)
          refine v_iload_n C dX5_plan_17 rfl ?_
          refine v_iconst 1 C dX5_plan_18 (by decide) ?_
          refine v_iadd C dX5_plan_19 ?_
          refine v_eqi (nI_1 _) ?_
          refine v_iload_n C dX5_plan_20 rfl ?_
          refine v_icmp_ge 45 C dX5_plan_21 (by decide) (fun h21 => False.elim (nI_ge hy (by omega) h21)) (fun h21 => ?_)
          refine v_aload_n C dX5_plan_24 rfl ?_
          refine v_iload C dX5_plan_25 rfl ?_
          refine v_iload_n C dX5_plan_27 rfl ?_
          refine v_iconst 1 C dX5_plan_28 (by decide) ?_
          refine v_iadd C dX5_plan_29 ?_
          refine v_eqi (nI_1 _) ?_
          refine v_aload_n C dX5_plan_30 rfl ?_
          refine v_iload C dX5_plan_31 rfl ?_
          refine v_iload_n C dX5_plan_33 rfl ?_
          refine v_iconst 1 C dX5_plan_34 (by decide) ?_
          refine v_iadd C dX5_plan_35 ?_
          refine v_eqi (nI_1 _) ?_
          refine v_callVi C (c_X5_nextSite (s := 0) (y := m + 1) hs (by decide) (by omega)) mt_X5_nextSite lk_RX5_24 rfl rfl (hs.1 42 _ rfl) rfl rfl rfl rfl rfl dX5_plan_36 ?_
          refine v_callVi C (c_X5_sumBy (s := 0) (y := m + 1) hs (by decide) (by omega) (nsF_lt _)) mt_X5_sumBy lk_RX5_28 rfl rfl (hs.1 42 _ rfl) rfl rfl rfl rfl rfl dX5_plan_39 ?_
          refine v_goto 46 C dX5_plan_42 (by decide) ?_
          refine v_istore C dX5_plan_46 (Nat.le_of_ble_eq_true rfl) rfl ?_
          refine v_aload_n C dX5_plan_48 rfl ?_
          refine v_getR 45 C fl_RX5_18 rfl (hs.1 42 _ rfl) (hs.2 42 2 45 rfl) dX5_plan_49 ?_
          refine v_iload_n C dX5_plan_52 rfl ?_
          refine v_iconst 5 C dX5_plan_53 (by decide) ?_
          refine v_imul C dX5_plan_54 ?_
          refine v_iload C dX5_plan_55 rfl ?_
          refine v_iadd C dX5_plan_57 ?_
          refine v_aload_n C dX5_plan_58 rfl ?_
          refine v_getR 43 C fl_RX5_9 rfl (hs.1 42 _ rfl) (hs.2 42 0 43 rfl) dX5_plan_59 ?_
          refine v_iload_n C dX5_plan_62 rfl ?_
          refine v_iconst 5 C dX5_plan_63 (by decide) ?_
          refine v_imul C dX5_plan_64 ?_
          refine v_iload C dX5_plan_65 rfl ?_
          refine v_iadd C dX5_plan_67 ?_
          refine v_iaload (m * 5 + 0) C (hs.1 43 _ rfl) (at_e (idx5 m 0) (by omega) (by decide)) dX5_plan_68 ?_
          refine v_iload C dX5_plan_69 rfl ?_
          refine v_iadd C dX5_plan_71 ?_
          refine v_iastore (m * 5 + 0) C (hs.1 45 _ rfl) (at_e (idx5 m 0) (by omega) (by decide)) dX5_plan_72 ?_
          refine v_iinc 1 C dX5_plan_73 rfl (by decide) (Nat.le_of_ble_eq_true rfl) rfl ?_
          refine v_goto 11 C dX5_plan_76 (by decide) ?_
          refine v_iload C dX5_plan_11 rfl ?_
          refine v_iconst 5 C dX5_plan_13 (by decide) ?_
          refine v_icmp_ge 79 C dX5_plan_14 (by decide) (fun h14 => absurd h14 (by decide)) (fun _ => ?_)
          refine v_iload_n C dX5_plan_17 rfl ?_
          refine v_iconst 1 C dX5_plan_18 (by decide) ?_
          refine v_iadd C dX5_plan_19 ?_
          refine v_eqi (nI_1 _) ?_
          refine v_iload_n C dX5_plan_20 rfl ?_
          refine v_icmp_ge 45 C dX5_plan_21 (by decide) (fun h21 => False.elim (nI_ge hy (by omega) h21)) (fun h21 => ?_)
          refine v_aload_n C dX5_plan_24 rfl ?_
          refine v_iload C dX5_plan_25 rfl ?_
          refine v_iload_n C dX5_plan_27 rfl ?_
          refine v_iconst 1 C dX5_plan_28 (by decide) ?_
          refine v_iadd C dX5_plan_29 ?_
          refine v_eqi (nI_1 _) ?_
          refine v_aload_n C dX5_plan_30 rfl ?_
          refine v_iload C dX5_plan_31 rfl ?_
          refine v_iload_n C dX5_plan_33 rfl ?_
          refine v_iconst 1 C dX5_plan_34 (by decide) ?_
          refine v_iadd C dX5_plan_35 ?_
          refine v_eqi (nI_1 _) ?_
          refine v_callVi C (c_X5_nextSite (s := 1) (y := m + 1) hs (by decide) (by omega)) mt_X5_nextSite lk_RX5_24 rfl rfl (hs.1 42 _ rfl) rfl rfl rfl rfl rfl dX5_plan_36 ?_
          refine v_callVi C (c_X5_sumBy (s := 1) (y := m + 1) hs (by decide) (by omega) (nsF_lt _)) mt_X5_sumBy lk_RX5_28 rfl rfl (hs.1 42 _ rfl) rfl rfl rfl rfl rfl dX5_plan_39 ?_
          refine v_goto 46 C dX5_plan_42 (by decide) ?_
          refine v_istore C dX5_plan_46 (Nat.le_of_ble_eq_true rfl) rfl ?_
          refine v_aload_n C dX5_plan_48 rfl ?_
          refine v_getR 45 C fl_RX5_18 rfl (hs.1 42 _ rfl) (hs.2 42 2 45 rfl) dX5_plan_49 ?_
          refine v_iload_n C dX5_plan_52 rfl ?_
          refine v_iconst 5 C dX5_plan_53 (by decide) ?_
          refine v_imul C dX5_plan_54 ?_
          refine v_iload C dX5_plan_55 rfl ?_
          refine v_iadd C dX5_plan_57 ?_
          refine v_aload_n C dX5_plan_58 rfl ?_
          refine v_getR 43 C fl_RX5_9 rfl (hs.1 42 _ rfl) (hs.2 42 0 43 rfl) dX5_plan_59 ?_
          refine v_iload_n C dX5_plan_62 rfl ?_
          refine v_iconst 5 C dX5_plan_63 (by decide) ?_
          refine v_imul C dX5_plan_64 ?_
          refine v_iload C dX5_plan_65 rfl ?_
          refine v_iadd C dX5_plan_67 ?_
          refine v_iaload (m * 5 + 1) C (hs.1 43 _ rfl) (at_e (idx5 m 1) (by omega) (by decide)) dX5_plan_68 ?_
          refine v_iload C dX5_plan_69 rfl ?_
          refine v_iadd C dX5_plan_71 ?_
          refine v_iastore (m * 5 + 1) C (hs.1 45 _ rfl) (at_e (idx5 m 1) (by omega) (by decide)) dX5_plan_72 ?_
          refine v_iinc 2 C dX5_plan_73 rfl (by decide) (Nat.le_of_ble_eq_true rfl) rfl ?_
          refine v_goto 11 C dX5_plan_76 (by decide) ?_
          refine v_iload C dX5_plan_11 rfl ?_
          refine v_iconst 5 C dX5_plan_13 (by decide) ?_
          refine v_icmp_ge 79 C dX5_plan_14 (by decide) (fun h14 => absurd h14 (by decide)) (fun _ => ?_)
          refine v_iload_n C dX5_plan_17 rfl ?_
          refine v_iconst 1 C dX5_plan_18 (by decide) ?_
          refine v_iadd C dX5_plan_19 ?_
          refine v_eqi (nI_1 _) ?_
          refine v_iload_n C dX5_plan_20 rfl ?_
          refine v_icmp_ge 45 C dX5_plan_21 (by decide) (fun h21 => False.elim (nI_ge hy (by omega) h21)) (fun h21 => ?_)
          refine v_aload_n C dX5_plan_24 rfl ?_
          refine v_iload C dX5_plan_25 rfl ?_
          refine v_iload_n C dX5_plan_27 rfl ?_
          refine v_iconst 1 C dX5_plan_28 (by decide) ?_
          refine v_iadd C dX5_plan_29 ?_
          refine v_eqi (nI_1 _) ?_
          refine v_aload_n C dX5_plan_30 rfl ?_
          refine v_iload C dX5_plan_31 rfl ?_
          refine v_iload_n C dX5_plan_33 rfl ?_
          refine v_iconst 1 C dX5_plan_34 (by decide) ?_
          refine v_iadd C dX5_plan_35 ?_
          refine v_eqi (nI_1 _) ?_
          refine v_callVi C (c_X5_nextSite (s := 2) (y := m + 1) hs (by decide) (by omega)) mt_X5_nextSite lk_RX5_24 rfl rfl (hs.1 42 _ rfl) rfl rfl rfl rfl rfl dX5_plan_36 ?_
          refine v_callVi C (c_X5_sumBy (s := 2) (y := m + 1) hs (by decide) (by omega) (nsF_lt _)) mt_X5_sumBy lk_RX5_28 rfl rfl (hs.1 42 _ rfl) rfl rfl rfl rfl rfl dX5_plan_39 ?_
          refine v_goto 46 C dX5_plan_42 (by decide) ?_
          refine v_istore C dX5_plan_46 (Nat.le_of_ble_eq_true rfl) rfl ?_
          refine v_aload_n C dX5_plan_48 rfl ?_
          refine v_getR 45 C fl_RX5_18 rfl (hs.1 42 _ rfl) (hs.2 42 2 45 rfl) dX5_plan_49 ?_
          refine v_iload_n C dX5_plan_52 rfl ?_
          refine v_iconst 5 C dX5_plan_53 (by decide) ?_
          refine v_imul C dX5_plan_54 ?_
          refine v_iload C dX5_plan_55 rfl ?_
          refine v_iadd C dX5_plan_57 ?_
          refine v_aload_n C dX5_plan_58 rfl ?_
          refine v_getR 43 C fl_RX5_9 rfl (hs.1 42 _ rfl) (hs.2 42 0 43 rfl) dX5_plan_59 ?_
          refine v_iload_n C dX5_plan_62 rfl ?_
          refine v_iconst 5 C dX5_plan_63 (by decide) ?_
          refine v_imul C dX5_plan_64 ?_
          refine v_iload C dX5_plan_65 rfl ?_
          refine v_iadd C dX5_plan_67 ?_
          refine v_iaload (m * 5 + 2) C (hs.1 43 _ rfl) (at_e (idx5 m 2) (by omega) (by decide)) dX5_plan_68 ?_
          refine v_iload C dX5_plan_69 rfl ?_
          refine v_iadd C dX5_plan_71 ?_
          refine v_iastore (m * 5 + 2) C (hs.1 45 _ rfl) (at_e (idx5 m 2) (by omega) (by decide)) dX5_plan_72 ?_
          refine v_iinc 3 C dX5_plan_73 rfl (by decide) (Nat.le_of_ble_eq_true rfl) rfl ?_
          refine v_goto 11 C dX5_plan_76 (by decide) ?_
          refine v_iload C dX5_plan_11 rfl ?_
          refine v_iconst 5 C dX5_plan_13 (by decide) ?_
          refine v_icmp_ge 79 C dX5_plan_14 (by decide) (fun h14 => absurd h14 (by decide)) (fun _ => ?_)
          refine v_iload_n C dX5_plan_17 rfl ?_
          refine v_iconst 1 C dX5_plan_18 (by decide) ?_
          refine v_iadd C dX5_plan_19 ?_
          refine v_eqi (nI_1 _) ?_
          refine v_iload_n C dX5_plan_20 rfl ?_
          refine v_icmp_ge 45 C dX5_plan_21 (by decide) (fun h21 => False.elim (nI_ge hy (by omega) h21)) (fun h21 => ?_)
          refine v_aload_n C dX5_plan_24 rfl ?_
          refine v_iload C dX5_plan_25 rfl ?_
          refine v_iload_n C dX5_plan_27 rfl ?_
          refine v_iconst 1 C dX5_plan_28 (by decide) ?_
          refine v_iadd C dX5_plan_29 ?_
          refine v_eqi (nI_1 _) ?_
          refine v_aload_n C dX5_plan_30 rfl ?_
          refine v_iload C dX5_plan_31 rfl ?_
          refine v_iload_n C dX5_plan_33 rfl ?_
          refine v_iconst 1 C dX5_plan_34 (by decide) ?_
          refine v_iadd C dX5_plan_35 ?_
          refine v_eqi (nI_1 _) ?_
          refine v_callVi C (c_X5_nextSite (s := 3) (y := m + 1) hs (by decide) (by omega)) mt_X5_nextSite lk_RX5_24 rfl rfl (hs.1 42 _ rfl) rfl rfl rfl rfl rfl dX5_plan_36 ?_
          refine v_callVi C (c_X5_sumBy (s := 3) (y := m + 1) hs (by decide) (by omega) (nsF_lt _)) mt_X5_sumBy lk_RX5_28 rfl rfl (hs.1 42 _ rfl) rfl rfl rfl rfl rfl dX5_plan_39 ?_
          refine v_goto 46 C dX5_plan_42 (by decide) ?_
          refine v_istore C dX5_plan_46 (Nat.le_of_ble_eq_true rfl) rfl ?_
          refine v_aload_n C dX5_plan_48 rfl ?_
          refine v_getR 45 C fl_RX5_18 rfl (hs.1 42 _ rfl) (hs.2 42 2 45 rfl) dX5_plan_49 ?_
          refine v_iload_n C dX5_plan_52 rfl ?_
          refine v_iconst 5 C dX5_plan_53 (by decide) ?_
          refine v_imul C dX5_plan_54 ?_
          refine v_iload C dX5_plan_55 rfl ?_
          refine v_iadd C dX5_plan_57 ?_
          refine v_aload_n C dX5_plan_58 rfl ?_
          refine v_getR 43 C fl_RX5_9 rfl (hs.1 42 _ rfl) (hs.2 42 0 43 rfl) dX5_plan_59 ?_
          refine v_iload_n C dX5_plan_62 rfl ?_
          refine v_iconst 5 C dX5_plan_63 (by decide) ?_
          refine v_imul C dX5_plan_64 ?_
          refine v_iload C dX5_plan_65 rfl ?_
          refine v_iadd C dX5_plan_67 ?_
          refine v_iaload (m * 5 + 3) C (hs.1 43 _ rfl) (at_e (idx5 m 3) (by omega) (by decide)) dX5_plan_68 ?_
          refine v_iload C dX5_plan_69 rfl ?_
          refine v_iadd C dX5_plan_71 ?_
          refine v_iastore (m * 5 + 3) C (hs.1 45 _ rfl) (at_e (idx5 m 3) (by omega) (by decide)) dX5_plan_72 ?_
          refine v_iinc 4 C dX5_plan_73 rfl (by decide) (Nat.le_of_ble_eq_true rfl) rfl ?_
          refine v_goto 11 C dX5_plan_76 (by decide) ?_
          refine v_iload C dX5_plan_11 rfl ?_
          refine v_iconst 5 C dX5_plan_13 (by decide) ?_
          refine v_icmp_ge 79 C dX5_plan_14 (by decide) (fun h14 => absurd h14 (by decide)) (fun _ => ?_)
          refine v_iload_n C dX5_plan_17 rfl ?_
          refine v_iconst 1 C dX5_plan_18 (by decide) ?_
          refine v_iadd C dX5_plan_19 ?_
          refine v_eqi (nI_1 _) ?_
          refine v_iload_n C dX5_plan_20 rfl ?_
          refine v_icmp_ge 45 C dX5_plan_21 (by decide) (fun h21 => False.elim (nI_ge hy (by omega) h21)) (fun h21 => ?_)
          refine v_aload_n C dX5_plan_24 rfl ?_
          refine v_iload C dX5_plan_25 rfl ?_
          refine v_iload_n C dX5_plan_27 rfl ?_
          refine v_iconst 1 C dX5_plan_28 (by decide) ?_
          refine v_iadd C dX5_plan_29 ?_
          refine v_eqi (nI_1 _) ?_
          refine v_aload_n C dX5_plan_30 rfl ?_
          refine v_iload C dX5_plan_31 rfl ?_
          refine v_iload_n C dX5_plan_33 rfl ?_
          refine v_iconst 1 C dX5_plan_34 (by decide) ?_
          refine v_iadd C dX5_plan_35 ?_
          refine v_eqi (nI_1 _) ?_
          refine v_callVi C (c_X5_nextSite (s := 4) (y := m + 1) hs (by decide) (by omega)) mt_X5_nextSite lk_RX5_24 rfl rfl (hs.1 42 _ rfl) rfl rfl rfl rfl rfl dX5_plan_36 ?_
          refine v_callVi C (c_X5_sumBy (s := 4) (y := m + 1) hs (by decide) (by omega) (nsF_lt _)) mt_X5_sumBy lk_RX5_28 rfl rfl (hs.1 42 _ rfl) rfl rfl rfl rfl rfl dX5_plan_39 ?_
          refine v_goto 46 C dX5_plan_42 (by decide) ?_
          refine v_istore C dX5_plan_46 (Nat.le_of_ble_eq_true rfl) rfl ?_
          refine v_aload_n C dX5_plan_48 rfl ?_
          refine v_getR 45 C fl_RX5_18 rfl (hs.1 42 _ rfl) (hs.2 42 2 45 rfl) dX5_plan_49 ?_
          refine v_iload_n C dX5_plan_52 rfl ?_
          refine v_iconst 5 C dX5_plan_53 (by decide) ?_
          refine v_imul C dX5_plan_54 ?_
          refine v_iload C dX5_plan_55 rfl ?_
          refine v_iadd C dX5_plan_57 ?_
          refine v_aload_n C dX5_plan_58 rfl ?_
          refine v_getR 43 C fl_RX5_9 rfl (hs.1 42 _ rfl) (hs.2 42 0 43 rfl) dX5_plan_59 ?_
          refine v_iload_n C dX5_plan_62 rfl ?_
          refine v_iconst 5 C dX5_plan_63 (by decide) ?_
          refine v_imul C dX5_plan_64 ?_
          refine v_iload C dX5_plan_65 rfl ?_
          refine v_iadd C dX5_plan_67 ?_
          refine v_iaload (m * 5 + 4) C (hs.1 43 _ rfl) (at_e (idx5 m 4) (by omega) (by decide)) dX5_plan_68 ?_
          refine v_iload C dX5_plan_69 rfl ?_
          refine v_iadd C dX5_plan_71 ?_
          refine v_iastore (m * 5 + 4) C (hs.1 45 _ rfl) (at_e (idx5 m 4) (by omega) (by decide)) dX5_plan_72 ?_
          refine v_iinc 5 C dX5_plan_73 rfl (by decide) (Nat.le_of_ble_eq_true rfl) rfl ?_
          refine v_goto 11 C dX5_plan_76 (by decide) ?_
          refine v_iload C dX5_plan_11 rfl ?_
          refine v_iconst 5 C dX5_plan_13 (by decide) ?_
          refine v_icmp_ge 79 C dX5_plan_14 (by decide) (fun _ => ?_) (fun h14 => absurd h14 (by decide))
          refine v_eqI (show _ = rowF mm m Ii by simp only [rowF, lst, if_pos hy]) ?_
          refine v_iinc (nI m - 1) C dX5_plan_79 rfl (nI_decm m) (Nat.le_of_ble_eq_true rfl) rfl ?_
          refine v_goto 4 C dX5_plan_82 (by decide) ?_
          refine v_drop 4 ?_
          refine v_drop 5 ?_
          exact ih m (rowF mm m Ii) (lt_fuel hfuel) (by omega) hx
        · refine v_iconst 0 C dX5_plan_8 (by decide) ?_
          refine v_istore C dX5_plan_9 (Nat.le_of_ble_eq_true rfl) rfl ?_
          refine v_iload C dX5_plan_11 rfl ?_
          refine v_iconst 5 C dX5_plan_13 (by decide) ?_
          refine v_icmp_ge 79 C dX5_plan_14 (by decide) (fun h14 => absurd h14 (by decide)) (fun _ => ?_)
          refine v_iload_n C dX5_plan_17 rfl ?_
          refine v_iconst 1 C dX5_plan_18 (by decide) ?_
          refine v_iadd C dX5_plan_19 ?_
          refine v_eqi (nI_1 _) ?_
          refine v_iload_n C dX5_plan_20 rfl ?_
          refine v_icmp_ge 45 C dX5_plan_21 (by decide) (fun h21 => ?_) (fun h21 => False.elim (h21 (nI_le (by omega) (by omega))))
          refine v_iconst 0 C dX5_plan_45 (by decide) ?_
          refine v_istore C dX5_plan_46 (Nat.le_of_ble_eq_true rfl) rfl ?_
          refine v_aload_n C dX5_plan_48 rfl ?_
          refine v_getR 45 C fl_RX5_18 rfl (hs.1 42 _ rfl) (hs.2 42 2 45 rfl) dX5_plan_49 ?_
          refine v_iload_n C dX5_plan_52 rfl ?_
          refine v_iconst 5 C dX5_plan_53 (by decide) ?_
          refine v_imul C dX5_plan_54 ?_
          refine v_iload C dX5_plan_55 rfl ?_
          refine v_iadd C dX5_plan_57 ?_
          refine v_aload_n C dX5_plan_58 rfl ?_
          refine v_getR 43 C fl_RX5_9 rfl (hs.1 42 _ rfl) (hs.2 42 0 43 rfl) dX5_plan_59 ?_
          refine v_iload_n C dX5_plan_62 rfl ?_
          refine v_iconst 5 C dX5_plan_63 (by decide) ?_
          refine v_imul C dX5_plan_64 ?_
          refine v_iload C dX5_plan_65 rfl ?_
          refine v_iadd C dX5_plan_67 ?_
          refine v_iaload (m * 5 + 0) C (hs.1 43 _ rfl) (at_e (idx5 m 0) (by omega) (by decide)) dX5_plan_68 ?_
          refine v_iload C dX5_plan_69 rfl ?_
          refine v_iadd C dX5_plan_71 ?_
          refine v_iastore (m * 5 + 0) C (hs.1 45 _ rfl) (at_e (idx5 m 0) (by omega) (by decide)) dX5_plan_72 ?_
          refine v_iinc 1 C dX5_plan_73 rfl (by decide) (Nat.le_of_ble_eq_true rfl) rfl ?_
          refine v_goto 11 C dX5_plan_76 (by decide) ?_
          refine v_iload C dX5_plan_11 rfl ?_
          refine v_iconst 5 C dX5_plan_13 (by decide) ?_
          refine v_icmp_ge 79 C dX5_plan_14 (by decide) (fun h14 => absurd h14 (by decide)) (fun _ => ?_)
          refine v_iload_n C dX5_plan_17 rfl ?_
          refine v_iconst 1 C dX5_plan_18 (by decide) ?_
          refine v_iadd C dX5_plan_19 ?_
          refine v_eqi (nI_1 _) ?_
          refine v_iload_n C dX5_plan_20 rfl ?_
          refine v_icmp_ge 45 C dX5_plan_21 (by decide) (fun h21 => ?_) (fun h21 => False.elim (h21 (nI_le (by omega) (by omega))))
          refine v_iconst 0 C dX5_plan_45 (by decide) ?_
          refine v_istore C dX5_plan_46 (Nat.le_of_ble_eq_true rfl) rfl ?_
          refine v_aload_n C dX5_plan_48 rfl ?_
          refine v_getR 45 C fl_RX5_18 rfl (hs.1 42 _ rfl) (hs.2 42 2 45 rfl) dX5_plan_49 ?_
          refine v_iload_n C dX5_plan_52 rfl ?_
          refine v_iconst 5 C dX5_plan_53 (by decide) ?_
          refine v_imul C dX5_plan_54 ?_
          refine v_iload C dX5_plan_55 rfl ?_
          refine v_iadd C dX5_plan_57 ?_
          refine v_aload_n C dX5_plan_58 rfl ?_
          refine v_getR 43 C fl_RX5_9 rfl (hs.1 42 _ rfl) (hs.2 42 0 43 rfl) dX5_plan_59 ?_
          refine v_iload_n C dX5_plan_62 rfl ?_
          refine v_iconst 5 C dX5_plan_63 (by decide) ?_
          refine v_imul C dX5_plan_64 ?_
          refine v_iload C dX5_plan_65 rfl ?_
          refine v_iadd C dX5_plan_67 ?_
          refine v_iaload (m * 5 + 1) C (hs.1 43 _ rfl) (at_e (idx5 m 1) (by omega) (by decide)) dX5_plan_68 ?_
          refine v_iload C dX5_plan_69 rfl ?_
          refine v_iadd C dX5_plan_71 ?_
          refine v_iastore (m * 5 + 1) C (hs.1 45 _ rfl) (at_e (idx5 m 1) (by omega) (by decide)) dX5_plan_72 ?_
          refine v_iinc 2 C dX5_plan_73 rfl (by decide) (Nat.le_of_ble_eq_true rfl) rfl ?_
          refine v_goto 11 C dX5_plan_76 (by decide) ?_
          refine v_iload C dX5_plan_11 rfl ?_
          refine v_iconst 5 C dX5_plan_13 (by decide) ?_
          refine v_icmp_ge 79 C dX5_plan_14 (by decide) (fun h14 => absurd h14 (by decide)) (fun _ => ?_)
          refine v_iload_n C dX5_plan_17 rfl ?_
          refine v_iconst 1 C dX5_plan_18 (by decide) ?_
          refine v_iadd C dX5_plan_19 ?_
          refine v_eqi (nI_1 _) ?_
          refine v_iload_n C dX5_plan_20 rfl ?_
          refine v_icmp_ge 45 C dX5_plan_21 (by decide) (fun h21 => ?_) (fun h21 => False.elim (h21 (nI_le (by omega) (by omega))))
          refine v_iconst 0 C dX5_plan_45 (by decide) ?_
          refine v_istore C dX5_plan_46 (Nat.le_of_ble_eq_true rfl) rfl ?_
          refine v_aload_n C dX5_plan_48 rfl ?_
          refine v_getR 45 C fl_RX5_18 rfl (hs.1 42 _ rfl) (hs.2 42 2 45 rfl) dX5_plan_49 ?_
          refine v_iload_n C dX5_plan_52 rfl ?_
          refine v_iconst 5 C dX5_plan_53 (by decide) ?_
          refine v_imul C dX5_plan_54 ?_
          refine v_iload C dX5_plan_55 rfl ?_
          refine v_iadd C dX5_plan_57 ?_
          refine v_aload_n C dX5_plan_58 rfl ?_
          refine v_getR 43 C fl_RX5_9 rfl (hs.1 42 _ rfl) (hs.2 42 0 43 rfl) dX5_plan_59 ?_
          refine v_iload_n C dX5_plan_62 rfl ?_
          refine v_iconst 5 C dX5_plan_63 (by decide) ?_
          refine v_imul C dX5_plan_64 ?_
          refine v_iload C dX5_plan_65 rfl ?_
          refine v_iadd C dX5_plan_67 ?_
          refine v_iaload (m * 5 + 2) C (hs.1 43 _ rfl) (at_e (idx5 m 2) (by omega) (by decide)) dX5_plan_68 ?_
          refine v_iload C dX5_plan_69 rfl ?_
          refine v_iadd C dX5_plan_71 ?_
          refine v_iastore (m * 5 + 2) C (hs.1 45 _ rfl) (at_e (idx5 m 2) (by omega) (by decide)) dX5_plan_72 ?_
          refine v_iinc 3 C dX5_plan_73 rfl (by decide) (Nat.le_of_ble_eq_true rfl) rfl ?_
          refine v_goto 11 C dX5_plan_76 (by decide) ?_
          refine v_iload C dX5_plan_11 rfl ?_
          refine v_iconst 5 C dX5_plan_13 (by decide) ?_
          refine v_icmp_ge 79 C dX5_plan_14 (by decide) (fun h14 => absurd h14 (by decide)) (fun _ => ?_)
          refine v_iload_n C dX5_plan_17 rfl ?_
          refine v_iconst 1 C dX5_plan_18 (by decide) ?_
          refine v_iadd C dX5_plan_19 ?_
          refine v_eqi (nI_1 _) ?_
          refine v_iload_n C dX5_plan_20 rfl ?_
          refine v_icmp_ge 45 C dX5_plan_21 (by decide) (fun h21 => ?_) (fun h21 => False.elim (h21 (nI_le (by omega) (by omega))))
          refine v_iconst 0 C dX5_plan_45 (by decide) ?_
          refine v_istore C dX5_plan_46 (Nat.le_of_ble_eq_true rfl) rfl ?_
          refine v_aload_n C dX5_plan_48 rfl ?_
          refine v_getR 45 C fl_RX5_18 rfl (hs.1 42 _ rfl) (hs.2 42 2 45 rfl) dX5_plan_49 ?_
          refine v_iload_n C dX5_plan_52 rfl ?_
          refine v_iconst 5 C dX5_plan_53 (by decide) ?_
          refine v_imul C dX5_plan_54 ?_
          refine v_iload C dX5_plan_55 rfl ?_
          refine v_iadd C dX5_plan_57 ?_
          refine v_aload_n C dX5_plan_58 rfl ?_
          refine v_getR 43 C fl_RX5_9 rfl (hs.1 42 _ rfl) (hs.2 42 0 43 rfl) dX5_plan_59 ?_
          refine v_iload_n C dX5_plan_62 rfl ?_
          refine v_iconst 5 C dX5_plan_63 (by decide) ?_
          refine v_imul C dX5_plan_64 ?_
          refine v_iload C dX5_plan_65 rfl ?_
          refine v_iadd C dX5_plan_67 ?_
          refine v_iaload (m * 5 + 3) C (hs.1 43 _ rfl) (at_e (idx5 m 3) (by omega) (by decide)) dX5_plan_68 ?_
          refine v_iload C dX5_plan_69 rfl ?_
          refine v_iadd C dX5_plan_71 ?_
          refine v_iastore (m * 5 + 3) C (hs.1 45 _ rfl) (at_e (idx5 m 3) (by omega) (by decide)) dX5_plan_72 ?_
          refine v_iinc 4 C dX5_plan_73 rfl (by decide) (Nat.le_of_ble_eq_true rfl) rfl ?_
          refine v_goto 11 C dX5_plan_76 (by decide) ?_
          refine v_iload C dX5_plan_11 rfl ?_
          refine v_iconst 5 C dX5_plan_13 (by decide) ?_
          refine v_icmp_ge 79 C dX5_plan_14 (by decide) (fun h14 => absurd h14 (by decide)) (fun _ => ?_)
          refine v_iload_n C dX5_plan_17 rfl ?_
          refine v_iconst 1 C dX5_plan_18 (by decide) ?_
          refine v_iadd C dX5_plan_19 ?_
          refine v_eqi (nI_1 _) ?_
          refine v_iload_n C dX5_plan_20 rfl ?_
          refine v_icmp_ge 45 C dX5_plan_21 (by decide) (fun h21 => ?_) (fun h21 => False.elim (h21 (nI_le (by omega) (by omega))))
          refine v_iconst 0 C dX5_plan_45 (by decide) ?_
          refine v_istore C dX5_plan_46 (Nat.le_of_ble_eq_true rfl) rfl ?_
          refine v_aload_n C dX5_plan_48 rfl ?_
          refine v_getR 45 C fl_RX5_18 rfl (hs.1 42 _ rfl) (hs.2 42 2 45 rfl) dX5_plan_49 ?_
          refine v_iload_n C dX5_plan_52 rfl ?_
          refine v_iconst 5 C dX5_plan_53 (by decide) ?_
          refine v_imul C dX5_plan_54 ?_
          refine v_iload C dX5_plan_55 rfl ?_
          refine v_iadd C dX5_plan_57 ?_
          refine v_aload_n C dX5_plan_58 rfl ?_
          refine v_getR 43 C fl_RX5_9 rfl (hs.1 42 _ rfl) (hs.2 42 0 43 rfl) dX5_plan_59 ?_
          refine v_iload_n C dX5_plan_62 rfl ?_
          refine v_iconst 5 C dX5_plan_63 (by decide) ?_
          refine v_imul C dX5_plan_64 ?_
          refine v_iload C dX5_plan_65 rfl ?_
          refine v_iadd C dX5_plan_67 ?_
          refine v_iaload (m * 5 + 4) C (hs.1 43 _ rfl) (at_e (idx5 m 4) (by omega) (by decide)) dX5_plan_68 ?_
          refine v_iload C dX5_plan_69 rfl ?_
          refine v_iadd C dX5_plan_71 ?_
          refine v_iastore (m * 5 + 4) C (hs.1 45 _ rfl) (at_e (idx5 m 4) (by omega) (by decide)) dX5_plan_72 ?_
          refine v_iinc 5 C dX5_plan_73 rfl (by decide) (Nat.le_of_ble_eq_true rfl) rfl ?_
          refine v_goto 11 C dX5_plan_76 (by decide) ?_
          refine v_iload C dX5_plan_11 rfl ?_
          refine v_iconst 5 C dX5_plan_13 (by decide) ?_
          refine v_icmp_ge 79 C dX5_plan_14 (by decide) (fun _ => ?_) (fun h14 => absurd h14 (by decide))
          refine v_eqI (show _ = rowF mm m Ii by simp only [rowF, lst, if_neg hy]) ?_
          refine v_iinc (nI m - 1) C dX5_plan_79 rfl (nI_decm m) (Nat.le_of_ble_eq_true rfl) rfl ?_
          refine v_goto 4 C dX5_plan_82 (by decide) ?_
          refine v_drop 4 ?_
          refine v_drop 5 ?_
          exact ih m (rowF mm m Ii) (lt_fuel hfuel) (by omega) hx
  have lp2 : ∀ (fuel : Nat) (m q s : Nat) (Ii : IM), m < fuel → q + m = mm → s < 5 → V E X (m_Z E X (m_ret (some (.int (planR I mm s0))) sh (planI I mm s0) J R) 0 0) 0 0 sh (chM m q s Ii) J R 123 [some (.ref 42), some (.int (nI s0)), some (.int (nI mm)), none, none, none] [] → V E X (m_Z E X (m_ret (some (.int (planR I mm s0))) sh (planI I mm s0) J R) 0 0) 0 0 sh Ii J R 95 [some (.ref 42), some (.int (nI s0)), some (.int (nI mm)), some (.int (nI s)), some (.int (nI q)), none] [] := by
    intro fuel
    induction fuel with
    | zero => intro m q s Ii hfuel; exact absurd hfuel (Nat.not_lt_zero _)
    | succ fuel ih =>
      intro m q s Ii hfuel hk hs5 hx
      refine v_iload C dX5_plan_95 rfl ?_
      refine v_iload_n C dX5_plan_97 rfl ?_
      refine v_icmp_ge 123 C dX5_plan_98 (by decide) (fun h98 => ?_) (fun h98 => ?_)
      · have hqn := nI_le_of h98 (by omega) (by omega)
        obtain rfl : m = 0 := by omega
        exact v_drop 3 (v_drop 4 hx)
      · have hqn := nI_lt_of h98 (by omega)
        obtain ⟨m, rfl⟩ : ∃ m2, m = m2 + 1 := ⟨m - 1, by omega⟩
        refine v_aload_n C dX5_plan_101 rfl ?_
        refine v_iload_n C dX5_plan_102 rfl ?_
        refine v_iload C dX5_plan_103 rfl ?_
        refine v_callVi C (c_X5_nextSite (s := s) (y := q) hs hs5 (by omega)) mt_X5_nextSite lk_RX5_24 rfl rfl (hs.1 42 _ rfl) rfl rfl rfl rfl rfl dX5_plan_105 ?_
        refine v_istore_n C dX5_plan_108 (Nat.le_of_ble_eq_true rfl) rfl ?_
        refine v_aload_n C dX5_plan_109 rfl ?_
        refine v_getR 46 C fl_RX5_21 rfl (hs.1 42 _ rfl) (hs.2 42 3 46 rfl) dX5_plan_110 ?_
        refine v_iload C dX5_plan_113 rfl ?_
        refine v_iload_n C dX5_plan_115 rfl ?_
        refine v_iastore q C (hs.1 46 _ rfl) (at_nI (by omega) (by decide)) dX5_plan_116 ?_
        refine v_iinc (nI (q + 1)) C dX5_plan_117 rfl (nI_1 q) (Nat.le_of_ble_eq_true rfl) rfl ?_
        refine v_goto 95 C dX5_plan_120 (by decide) ?_
        exact ih m (q + 1) (nsF (sb Ii s q)) _ (lt_fuel hfuel) (by omega) (nsF_lt _) hx
  refine v_iload_n C dX5_plan_0 rfl ?_
  refine v_iconst 1 C dX5_plan_1 (by decide) ?_
  refine v_isub C dX5_plan_2 ?_
  refine v_istore_n C dX5_plan_3 (Nat.le_of_ble_eq_true rfl) rfl ?_
  refine lp1 (mm + 1) mm I (Nat.lt_succ_self mm) (Nat.le_refl mm) ?_
  refine v_aload_n C dX5_plan_85 rfl ?_
  refine v_iload_n C dX5_plan_86 rfl ?_
  refine v_putI C fl_RX5_32 rfl (hs.1 42 _ rfl) dX5_plan_87 ?_
  refine v_iload_n C dX5_plan_90 rfl ?_
  refine v_istore_n C dX5_plan_91 (Nat.le_of_ble_eq_true rfl) rfl ?_
  refine v_iconst 0 C dX5_plan_92 (by decide) ?_
  refine v_istore C dX5_plan_93 (Nat.le_of_ble_eq_true rfl) rfl ?_
  refine lp2 (mm + 1) mm 0 s0 _ (Nat.lt_succ_self mm) (by omega) h3 ?_
  refine v_aload_n C dX5_plan_123 rfl ?_
  refine v_iload_n C dX5_plan_124 rfl ?_
  refine v_iconst 0 C dX5_plan_125 (by decide) ?_
  refine v_aload_n C dX5_plan_126 rfl ?_
  refine v_getR 46 C fl_RX5_21 rfl (hs.1 42 _ rfl) (hs.2 42 3 46 rfl) dX5_plan_127 ?_
  refine v_iconst 0 C dX5_plan_130 (by decide) ?_
  refine v_iaload 0 C (hs.1 46 _ rfl) (at_c rfl) dX5_plan_131 ?_
  refine v_eqi (chM_0 (by omega)) ?_
  refine v_callVi C (c_X5_sumBy (s := s0) (y := 0) hs h3 (by decide) (nsF_lt _)) mt_X5_sumBy lk_RX5_28 rfl rfl (hs.1 42 _ rfl) rfl rfl rfl rfl rfl dX5_plan_132 ?_
  exact v_iret C dX5_plan_135 ⟨rfl, rfl, rfl, rfl, rfl⟩

set_option maxHeartbeats 4000000 in
set_option maxRecDepth 100000 in
theorem c_X10_move {lnc : Launch} {E : En} {sh : List Sh} {I : IM} {J : JM} {R : RM} {y : Int32} (hs : St sh R) (hsite : At (I 1 2) 5 (ix (I 1 2))) : Ct lnc E yX10_move cX10_move 2 (some .int) 3 72 [.ref 0, .int y] sh I J R 0 0 (m_ret (some (.int (moveR I y))) sh (moveI I y) J R) := by
  refine Ct.of (lv := [some (.ref 0), some (.int y)]) (by decide) (Nat.le_of_ble_eq_true rfl) rfl (fun X hX C => ?_)
  refine v_iload_n C dX10_move_0 rfl ?_
  refine v_iconst 1 C dX10_move_1 (by decide) ?_
  refine v_bipush 10 C dX10_move_2 (by decide) ?_
  refine v_callSi C c_X10_within mt_X10_within lk_RX10_88 rfl rfl rfl rfl rfl dX10_move_4 ?_
  refine v_if_ne 12 C dX10_move_7 (by decide) (fun h7 => ?_) (fun h7 => ?_)
  · refine v_aload_n C dX10_move_12 rfl ?_
    refine v_getR 42 C fl_RX10_84 rfl (hs.1 0 _ rfl) (hs.2 0 10 42 rfl) dX10_move_13 ?_
    refine v_aload_n C dX10_move_16 rfl ?_
    refine v_getR 1 C fl_RX10_10 rfl (hs.1 0 _ rfl) (hs.2 0 0 1 rfl) dX10_move_17 ?_
    refine v_getI C fl_RX10_112 rfl (hs.1 1 _ rfl) dX10_move_20 ?_
    refine v_iload_n C dX10_move_23 rfl ?_
    have hy := yrs h7
    have hst := hsite.eq (by decide)
    refine v_callVi C (by have h := c_X5_plan (lnc := xl X) (E := E) (I := I) (J := J) (mm := ix y) (s0 := ix (I 1 2)) hs hy.2.1 hy.2.2 hsite.lt; rw [← hy.1, ← hst] at h; exact h) mt_X5_plan lk_RX10_242 rfl rfl (hs.1 42 _ rfl) rfl rfl rfl rfl rfl dX10_move_24 ?_
    exact v_iret C dX10_move_27 ⟨by first | rw [moveR, if_neg h7] | rw [moveR, if_pos h7], rfl, by first | rw [moveI, if_neg h7] | rw [moveI, if_pos h7], rfl, rfl⟩
  · refine v_iconst (-1) C dX10_move_10 (by decide) ?_
    exact v_iret C dX10_move_11 ⟨by first | rw [moveR, if_neg h7] | rw [moveR, if_pos h7], rfl, by first | rw [moveI, if_neg h7] | rw [moveI, if_pos h7], rfl, rfl⟩
