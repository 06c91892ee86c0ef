set_option maxHeartbeats 4000000 in
set_option maxRecDepth 100000 in
theorem c_X10_stepHour {lnc : Launch} {E : En} {sh : List Sh} {I : IM} {J : JM} {R : RM} {n : Nat} {l0 l1 l2 : List Nat} (hs : St sh R) (hn : I 4 3 = nI n) (hl : n ≤ 20) (hB0 : BayOK sh I R 31 32 l0) (hB1 : BayOK sh I R 33 34 l1) (hB2 : BayOK sh I R 35 36 l2) : Ct lnc E yX10_stepHour cX10_stepHour 2 none 3 68 [.ref 0] sh I J R 0 0 (stepQ sh J R (stepC n (I, l0, l1, l2))) := by
  refine Ct.of (lv := [some (.ref 0), none]) (by decide) (Nat.le_of_ble_eq_true rfl) rfl (fun X hX C => ?_)
  refine v_aload_n C dX10_stepHour_0 rfl ?_
  refine v_getR 4 C fl_RX10_19 rfl (hs.1 0 _ rfl) (hs.2 0 1 4 rfl) dX10_stepHour_1 ?_
  refine v_aload_n C dX10_stepHour_4 rfl ?_
  refine v_getR 1 C fl_RX10_10 rfl (hs.1 0 _ rfl) (hs.2 0 0 1 rfl) dX10_stepHour_5 ?_
  refine v_aload_n C dX10_stepHour_8 rfl ?_
  refine v_getR 4 C fl_RX10_19 rfl (hs.1 0 _ rfl) (hs.2 0 1 4 rfl) dX10_stepHour_9 ?_
  refine v_getI C fl_RX10_104 rfl (hs.1 4 _ rfl) dX10_stepHour_12 ?_
  refine v_callVi C (c_X2_takeFromStack hs) mt_X2_takeFromStack lk_RX10_257 rfl rfl (hs.1 1 _ rfl) rfl rfl rfl rfl rfl dX10_stepHour_15 ?_
  refine v_aload_n C dX10_stepHour_18 rfl ?_
  refine v_getI C fl_RX10_211 rfl (hs.1 0 _ rfl) dX10_stepHour_19 ?_
  refine v_callVv C (c_X3_burn (n := n) hs hn hl) mt_X3_burn lk_RX10_260 rfl rfl (hs.1 4 _ rfl) rfl rfl rfl rfl rfl dX10_stepHour_22 ?_
  refine v_iconst 0 C dX10_stepHour_25 (by decide) ?_
  refine v_istore_n C dX10_stepHour_26 (Nat.le_of_ble_eq_true rfl) rfl ?_
  refine v_iload_n C dX10_stepHour_27 rfl ?_
  refine v_bipush 6 C dX10_stepHour_28 (by decide) ?_
  refine v_icmp_ge 55 C dX10_stepHour_30 (by decide) (fun h30 => absurd h30 (by decide)) (fun _ => ?_)
  refine v_aload_n C dX10_stepHour_33 rfl ?_
  refine v_getR 17 C fl_RX10_39 rfl (hs.1 0 _ rfl) (hs.2 0 4 17 rfl) dX10_stepHour_34 ?_
  refine v_iload_n C dX10_stepHour_37 rfl ?_
  refine v_aaload 0 C (hs.1 17 _ rfl) (cn := RX7) ⟨rfl, by decide, by decide⟩ (at_c rfl) (hs.2 17 0 18 rfl) dX10_stepHour_38 ?_
  refine v_aload_n C dX10_stepHour_39 rfl ?_
  refine v_getR 4 C fl_RX10_19 rfl (hs.1 0 _ rfl) (hs.2 0 1 4 rfl) dX10_stepHour_40 ?_
  refine v_getI C fl_RX10_122 rfl (hs.1 4 _ rfl) dX10_stepHour_43 ?_
  refine v_callVv C (c_X7_melt (hs.1 18 _ rfl)) mt_X7_melt lk_RX10_264 rfl rfl (hs.1 18 _ rfl) rfl rfl rfl rfl rfl dX10_stepHour_46 ?_
  refine v_iinc 1 C dX10_stepHour_49 rfl (by decide) (Nat.le_of_ble_eq_true rfl) rfl ?_
  refine v_goto 27 C dX10_stepHour_52 (by decide) ?_
  refine v_iload_n C dX10_stepHour_27 rfl ?_
  refine v_bipush 6 C dX10_stepHour_28 (by decide) ?_
  refine v_icmp_ge 55 C dX10_stepHour_30 (by decide) (fun h30 => absurd h30 (by decide)) (fun _ => ?_)
  refine v_aload_n C dX10_stepHour_33 rfl ?_
  refine v_getR 17 C fl_RX10_39 rfl (hs.1 0 _ rfl) (hs.2 0 4 17 rfl) dX10_stepHour_34 ?_
  refine v_iload_n C dX10_stepHour_37 rfl ?_
  refine v_aaload 1 C (hs.1 17 _ rfl) (cn := RX7) ⟨rfl, by decide, by decide⟩ (at_c rfl) (hs.2 17 1 19 rfl) dX10_stepHour_38 ?_
  refine v_aload_n C dX10_stepHour_39 rfl ?_
  refine v_getR 4 C fl_RX10_19 rfl (hs.1 0 _ rfl) (hs.2 0 1 4 rfl) dX10_stepHour_40 ?_
  refine v_getI C fl_RX10_122 rfl (hs.1 4 _ rfl) dX10_stepHour_43 ?_
  refine v_callVv C (c_X7_melt (hs.1 19 _ rfl)) mt_X7_melt lk_RX10_264 rfl rfl (hs.1 19 _ rfl) rfl rfl rfl rfl rfl dX10_stepHour_46 ?_
  refine v_iinc 2 C dX10_stepHour_49 rfl (by decide) (Nat.le_of_ble_eq_true rfl) rfl ?_
  refine v_goto 27 C dX10_stepHour_52 (by decide) ?_
  refine v_iload_n C dX10_stepHour_27 rfl ?_
  refine v_bipush 6 C dX10_stepHour_28 (by decide) ?_
  refine v_icmp_ge 55 C dX10_stepHour_30 (by decide) (fun h30 => absurd h30 (by decide)) (fun _ => ?_)
  refine v_aload_n C dX10_stepHour_33 rfl ?_
  refine v_getR 17 C fl_RX10_39 rfl (hs.1 0 _ rfl) (hs.2 0 4 17 rfl) dX10_stepHour_34 ?_
  refine v_iload_n C dX10_stepHour_37 rfl ?_
  refine v_aaload 2 C (hs.1 17 _ rfl) (cn := RX7) ⟨rfl, by decide, by decide⟩ (at_c rfl) (hs.2 17 2 20 rfl) dX10_stepHour_38 ?_
  refine v_aload_n C dX10_stepHour_39 rfl ?_
  refine v_getR 4 C fl_RX10_19 rfl (hs.1 0 _ rfl) (hs.2 0 1 4 rfl) dX10_stepHour_40 ?_
  refine v_getI C fl_RX10_122 rfl (hs.1 4 _ rfl) dX10_stepHour_43 ?_
  refine v_callVv C (c_X7_melt (hs.1 20 _ rfl)) mt_X7_melt lk_RX10_264 rfl rfl (hs.1 20 _ rfl) rfl rfl rfl rfl rfl dX10_stepHour_46 ?_
  refine v_iinc 3 C dX10_stepHour_49 rfl (by decide) (Nat.le_of_ble_eq_true rfl) rfl ?_
  refine v_goto 27 C dX10_stepHour_52 (by decide) ?_
  refine v_iload_n C dX10_stepHour_27 rfl ?_
  refine v_bipush 6 C dX10_stepHour_28 (by decide) ?_
  refine v_icmp_ge 55 C dX10_stepHour_30 (by decide) (fun h30 => absurd h30 (by decide)) (fun _ => ?_)
  refine v_aload_n C dX10_stepHour_33 rfl ?_
  refine v_getR 17 C fl_RX10_39 rfl (hs.1 0 _ rfl) (hs.2 0 4 17 rfl) dX10_stepHour_34 ?_
  refine v_iload_n C dX10_stepHour_37 rfl ?_
  refine v_aaload 3 C (hs.1 17 _ rfl) (cn := RX7) ⟨rfl, by decide, by decide⟩ (at_c rfl) (hs.2 17 3 21 rfl) dX10_stepHour_38 ?_
  refine v_aload_n C dX10_stepHour_39 rfl ?_
  refine v_getR 4 C fl_RX10_19 rfl (hs.1 0 _ rfl) (hs.2 0 1 4 rfl) dX10_stepHour_40 ?_
  refine v_getI C fl_RX10_122 rfl (hs.1 4 _ rfl) dX10_stepHour_43 ?_
  refine v_callVv C (c_X7_melt (hs.1 21 _ rfl)) mt_X7_melt lk_RX10_264 rfl rfl (hs.1 21 _ rfl) rfl rfl rfl rfl rfl dX10_stepHour_46 ?_
  refine v_iinc 4 C dX10_stepHour_49 rfl (by decide) (Nat.le_of_ble_eq_true rfl) rfl ?_
  refine v_goto 27 C dX10_stepHour_52 (by decide) ?_
  refine v_iload_n C dX10_stepHour_27 rfl ?_
  refine v_bipush 6 C dX10_stepHour_28 (by decide) ?_
  refine v_icmp_ge 55 C dX10_stepHour_30 (by decide) (fun h30 => absurd h30 (by decide)) (fun _ => ?_)
  refine v_aload_n C dX10_stepHour_33 rfl ?_
  refine v_getR 17 C fl_RX10_39 rfl (hs.1 0 _ rfl) (hs.2 0 4 17 rfl) dX10_stepHour_34 ?_
  refine v_iload_n C dX10_stepHour_37 rfl ?_
  refine v_aaload 4 C (hs.1 17 _ rfl) (cn := RX7) ⟨rfl, by decide, by decide⟩ (at_c rfl) (hs.2 17 4 22 rfl) dX10_stepHour_38 ?_
  refine v_aload_n C dX10_stepHour_39 rfl ?_
  refine v_getR 4 C fl_RX10_19 rfl (hs.1 0 _ rfl) (hs.2 0 1 4 rfl) dX10_stepHour_40 ?_
  refine v_getI C fl_RX10_122 rfl (hs.1 4 _ rfl) dX10_stepHour_43 ?_
  refine v_callVv C (c_X7_melt (hs.1 22 _ rfl)) mt_X7_melt lk_RX10_264 rfl rfl (hs.1 22 _ rfl) rfl rfl rfl rfl rfl dX10_stepHour_46 ?_
  refine v_iinc 5 C dX10_stepHour_49 rfl (by decide) (Nat.le_of_ble_eq_true rfl) rfl ?_
  refine v_goto 27 C dX10_stepHour_52 (by decide) ?_
  refine v_iload_n C dX10_stepHour_27 rfl ?_
  refine v_bipush 6 C dX10_stepHour_28 (by decide) ?_
  refine v_icmp_ge 55 C dX10_stepHour_30 (by decide) (fun h30 => absurd h30 (by decide)) (fun _ => ?_)
  refine v_aload_n C dX10_stepHour_33 rfl ?_
  refine v_getR 17 C fl_RX10_39 rfl (hs.1 0 _ rfl) (hs.2 0 4 17 rfl) dX10_stepHour_34 ?_
  refine v_iload_n C dX10_stepHour_37 rfl ?_
  refine v_aaload 5 C (hs.1 17 _ rfl) (cn := RX7) ⟨rfl, by decide, by decide⟩ (at_c rfl) (hs.2 17 5 23 rfl) dX10_stepHour_38 ?_
  refine v_aload_n C dX10_stepHour_39 rfl ?_
  refine v_getR 4 C fl_RX10_19 rfl (hs.1 0 _ rfl) (hs.2 0 1 4 rfl) dX10_stepHour_40 ?_
  refine v_getI C fl_RX10_122 rfl (hs.1 4 _ rfl) dX10_stepHour_43 ?_
  refine v_callVv C (c_X7_melt (hs.1 23 _ rfl)) mt_X7_melt lk_RX10_264 rfl rfl (hs.1 23 _ rfl) rfl rfl rfl rfl rfl dX10_stepHour_46 ?_
  refine v_iinc 6 C dX10_stepHour_49 rfl (by decide) (Nat.le_of_ble_eq_true rfl) rfl ?_
  refine v_goto 27 C dX10_stepHour_52 (by decide) ?_
  refine v_iload_n C dX10_stepHour_27 rfl ?_
  refine v_bipush 6 C dX10_stepHour_28 (by decide) ?_
  refine v_icmp_ge 55 C dX10_stepHour_30 (by decide) (fun _ => ?_) (fun h30 => absurd h30 (by decide))
  have hB0p : BayOK sh (hour0 I n) R 31 32 l0 := hB0.mv rfl rfl
  refine v_eqI (I2 := hour0 I n) rfl ?_
  refine v_iconst 0 C dX10_stepHour_55 (by decide) ?_
  refine v_istore_n C dX10_stepHour_56 (Nat.le_of_ble_eq_true rfl) rfl ?_
  refine v_iload_n C dX10_stepHour_57 rfl ?_
  refine v_iconst 3 C dX10_stepHour_58 (by decide) ?_
  refine v_icmp_ge 77 C dX10_stepHour_59 (by decide) (fun h59 => absurd h59 (by decide)) (fun _ => ?_)
  refine v_aload_n C dX10_stepHour_62 rfl ?_
  refine v_getR 30 C fl_RX10_53 rfl (hs.1 0 _ rfl) (hs.2 0 6 30 rfl) dX10_stepHour_63 ?_
  refine v_iload_n C dX10_stepHour_66 rfl ?_
  refine v_aaload 0 C (hs.1 30 _ rfl) (cn := RX0) ⟨rfl, by decide, by decide⟩ (at_c rfl) (hs.2 30 0 31 rfl) dX10_stepHour_67 ?_
  refine v_callV C (c_X0_coolHour (l := l0) (hs.1 31 _ rfl) (hs.2 31 0 32 rfl) (hs.1 32 _ rfl) hB0p) mt_X0_coolHour lk_RX10_267 rfl rfl (hs.1 31 _ rfl) rfl rfl rfl (Nat.le_of_ble_eq_true rfl) (rmB_ok rfl) dX10_stepHour_68 ?_
  intro v0 sh0 I0 J0 R0 hQ0
  obtain ⟨rfl, rfl, hI0, rfl, hR0, hO0⟩ := hQ0
  have hs : St sh0 R0 := hs.eqR (b := 32) rfl hO0
  have hI0 : I0 = coolB (hour0 I n) 31 l0 := hI0
  have hB1 : BayOK sh0 I0 R0 33 34 l1 := hB1.mv (by rw [hI0, coolB_o (by decide) (hB0.out (hs.1 33 _ rfl) (by decide))]; rfl) (hO0 34 (by decide))
  have hB2 : BayOK sh0 I0 R0 35 36 l2 := hB2.mv (by rw [hI0, coolB_o (by decide) (hB0.out (hs.1 35 _ rfl) (by decide))]; rfl) (hO0 36 (by decide))
  refine v_iinc 1 C dX10_stepHour_71 rfl (by decide) (Nat.le_of_ble_eq_true rfl) rfl ?_
  refine v_goto 57 C dX10_stepHour_74 (by decide) ?_
  refine v_iload_n C dX10_stepHour_57 rfl ?_
  refine v_iconst 3 C dX10_stepHour_58 (by decide) ?_
  refine v_icmp_ge 77 C dX10_stepHour_59 (by decide) (fun h59 => absurd h59 (by decide)) (fun _ => ?_)
  refine v_aload_n C dX10_stepHour_62 rfl ?_
  refine v_getR 30 C fl_RX10_53 rfl (hs.1 0 _ rfl) (hs.2 0 6 30 rfl) dX10_stepHour_63 ?_
  refine v_iload_n C dX10_stepHour_66 rfl ?_
  refine v_aaload 1 C (hs.1 30 _ rfl) (cn := RX0) ⟨rfl, by decide, by decide⟩ (at_c rfl) (hs.2 30 1 33 rfl) dX10_stepHour_67 ?_
  refine v_callV C (c_X0_coolHour (l := l1) (hs.1 33 _ rfl) (hs.2 33 0 34 rfl) (hs.1 34 _ rfl) hB1) mt_X0_coolHour lk_RX10_267 rfl rfl (hs.1 33 _ rfl) rfl rfl rfl (Nat.le_of_ble_eq_true rfl) (rmB_ok rfl) dX10_stepHour_68 ?_
  intro v1 sh1 I1 J1 R1 hQ1
  obtain ⟨rfl, rfl, hI1, rfl, hR1, hO1⟩ := hQ1
  have hs : St sh1 R1 := hs.eqR (b := 34) rfl hO1
  have hI1 : I1 = coolB I0 33 l1 := hI1
  have hB2 : BayOK sh1 I1 R1 35 36 l2 := hB2.mv (by rw [hI1, coolB_o (by decide) (hB1.out (hs.1 35 _ rfl) (by decide))]) (hO1 36 (by decide))
  refine v_iinc 2 C dX10_stepHour_71 rfl (by decide) (Nat.le_of_ble_eq_true rfl) rfl ?_
  refine v_goto 57 C dX10_stepHour_74 (by decide) ?_
  refine v_iload_n C dX10_stepHour_57 rfl ?_
  refine v_iconst 3 C dX10_stepHour_58 (by decide) ?_
  refine v_icmp_ge 77 C dX10_stepHour_59 (by decide) (fun h59 => absurd h59 (by decide)) (fun _ => ?_)
  refine v_aload_n C dX10_stepHour_62 rfl ?_
  refine v_getR 30 C fl_RX10_53 rfl (hs.1 0 _ rfl) (hs.2 0 6 30 rfl) dX10_stepHour_63 ?_
  refine v_iload_n C dX10_stepHour_66 rfl ?_
  refine v_aaload 2 C (hs.1 30 _ rfl) (cn := RX0) ⟨rfl, by decide, by decide⟩ (at_c rfl) (hs.2 30 2 35 rfl) dX10_stepHour_67 ?_
  refine v_callV C (c_X0_coolHour (l := l2) (hs.1 35 _ rfl) (hs.2 35 0 36 rfl) (hs.1 36 _ rfl) hB2) mt_X0_coolHour lk_RX10_267 rfl rfl (hs.1 35 _ rfl) rfl rfl rfl (Nat.le_of_ble_eq_true rfl) (rmB_ok rfl) dX10_stepHour_68 ?_
  intro v2 sh2 I2 J2 R2 hQ2
  obtain ⟨rfl, rfl, hI2, rfl, hR2, hO2⟩ := hQ2
  have hs : St sh2 R2 := hs.eqR (b := 36) rfl hO2
  have hI2 : I2 = coolB I1 35 l2 := hI2
  refine v_iinc 3 C dX10_stepHour_71 rfl (by decide) (Nat.le_of_ble_eq_true rfl) rfl ?_
  refine v_goto 57 C dX10_stepHour_74 (by decide) ?_
  refine v_iload_n C dX10_stepHour_57 rfl ?_
  refine v_iconst 3 C dX10_stepHour_58 (by decide) ?_
  refine v_icmp_ge 77 C dX10_stepHour_59 (by decide) (fun _ => ?_) (fun h59 => absurd h59 (by decide))
  refine v_aload_n C dX10_stepHour_77 rfl ?_
  refine v_dupr C dX10_stepHour_78 ?_
  refine v_getI C fl_RX10_211 rfl (hs.1 0 _ rfl) dX10_stepHour_79 ?_
  refine v_iconst 1 C dX10_stepHour_82 (by decide) ?_
  refine v_iadd C dX10_stepHour_83 ?_
  refine v_putI C fl_RX10_211 rfl (hs.1 0 _ rfl) dX10_stepHour_84 ?_
  refine v_aload_n C dX10_stepHour_87 rfl ?_
  refine v_getR 37 C fl_RX10_58 rfl (hs.1 0 _ rfl) (hs.2 0 7 37 rfl) dX10_stepHour_88 ?_
  refine v_bipush 60 C dX10_stepHour_91 (by decide) ?_
  refine v_callSv C (c_J7_fill_53178 (hs.1 37 _ rfl) (by decide)) mt_J7_fill_53178 lk_RX10_62 rfl rfl rfl rfl rfl dX10_stepHour_93 ?_
  refine v_aload_n C dX10_stepHour_96 rfl ?_
  refine v_getI C fl_RX10_211 rfl (hs.1 0 _ rfl) dX10_stepHour_97 ?_
  refine v_sipush 500 C dX10_stepHour_100 (by decide) ?_
  refine v_irem C dX10_stepHour_103 (by decide) ?_
  refine v_if_ne 114 C dX10_stepHour_104 (by decide) (fun h104 => ?_) (fun h104 => ?_)
  · refine v_vret C dX10_stepHour_114 ⟨rfl, rfl, ?_, rfl, ?_, ?_, ?_, ?_⟩
    · show _ = hourT (coolB (coolB (coolB (hour0 I n) 31 l0) 33 l1) 35 l2)
      rw [← hI0, ← hI1, ← hI2]
      first | exact (if_pos h104).symm | exact (if_neg h104).symm
    · intro j hj; rw [hO2 32 (by decide), hO1 32 (by decide)]; exact hR0 j hj
    · intro j hj; rw [hO2 34 (by decide)]; have hj2 : j < (coolL l1 I0).1.length := by rw [hI0]; exact hj
      rw [hR1 j hj2, hI0]
      rfl
    · intro j hj; have hj2 : j < (coolL l2 I1).1.length := by rw [hI1, hI0]; exact hj
      rw [hR2 j hj2, hI1, hI0]
      rfl
    · intro e e1 e2 e3; rw [hO2 e e3, hO1 e e2, hO0 e e1]
  · refine v_aload_n C dX10_stepHour_107 rfl ?_
    refine v_getR 1 C fl_RX10_10 rfl (hs.1 0 _ rfl) (hs.2 0 0 1 rfl) dX10_stepHour_108 ?_
    refine v_callVv C (c_X2_beginYear hs) mt_X2_beginYear lk_RX10_270 rfl rfl (hs.1 1 _ rfl) rfl rfl rfl rfl rfl dX10_stepHour_111 ?_
    refine v_vret C dX10_stepHour_114 ⟨rfl, rfl, ?_, rfl, ?_, ?_, ?_, ?_⟩
    · show _ = hourT (coolB (coolB (coolB (hour0 I n) 31 l0) 33 l1) 35 l2)
      rw [← hI0, ← hI1, ← hI2]
      first | exact (if_pos h104).symm | exact (if_neg h104).symm
    · intro j hj; rw [hO2 32 (by decide), hO1 32 (by decide)]; exact hR0 j hj
    · intro j hj; rw [hO2 34 (by decide)]; have hj2 : j < (coolL l1 I0).1.length := by rw [hI0]; exact hj
      rw [hR1 j hj2, hI0]
      rfl
    · intro j hj; have hj2 : j < (coolL l2 I1).1.length := by rw [hI1, hI0]; exact hj
      rw [hR2 j hj2, hI1, hI0]
      rfl
    · intro e e1 e2 e3; rw [hO2 e e3, hO1 e e2, hO0 e e1]
