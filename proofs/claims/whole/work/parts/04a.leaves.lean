theorem ex_in {i : Int32} {n j : Nat} (hj : At i n j) (hn : n < 2 ^ 31) : ¬ wI i 0 (nI n - 1) = 0 := by
  have hlt := hj.lt
  have he := hj.eq hn
  subst he
  have e1 : nI n - 1 = nI (n - 1) := by
    obtain ⟨m, rfl⟩ : ∃ m, n = m + 1 := ⟨n - 1, by omega⟩
    exact nI_pred m
  intro h
  refine wI_0 h ⟨nI_pos' (by omega), ?_⟩
  rw [e1]
  exact nI_le (by omega) (by omega)
set_option maxHeartbeats 4000000 in
set_option maxRecDepth 100000 in
theorem c_X10_within {lnc : Launch} {E : En} {sh : List Sh} {I : IM} {J : JM} {R : RM} {x lo hi : Int32} : Ct lnc E yX10_within cX10_within 3 (some .boolean) 0 0 [.int x, .int lo, .int hi] sh I J R 0 0 (m_ret (some (.int (wI x lo hi))) sh I J R) := by
  refine Ct.of (lv := [some (.int x), some (.int lo), some (.int hi)]) (by decide) (Nat.le_of_ble_eq_true rfl) rfl (fun X hX C => ?_)
  refine v_iload_n C dX10_within_0 rfl ?_
  refine v_iload_n C dX10_within_1 rfl ?_
  refine v_icmp_lt 14 C dX10_within_2 (by decide) (fun h2 => ?_) (fun h2 => ?_)
  · refine v_iconst 0 C dX10_within_14 (by decide) ?_
    exact v_zret C (Or.inl rfl) dX10_within_15 ⟨by simp [wI, *], rfl, rfl, rfl, rfl⟩
  · refine v_iload_n C dX10_within_5 rfl ?_
    refine v_iload_n C dX10_within_6 rfl ?_
    refine v_icmp_gt 14 C dX10_within_7 (by decide) (fun h7 => ?_) (fun h7 => ?_)
    · refine v_iconst 0 C dX10_within_14 (by decide) ?_
      exact v_zret C (Or.inl rfl) dX10_within_15 ⟨by simp [wI, *], rfl, rfl, rfl, rfl⟩
    · refine v_iconst 1 C dX10_within_10 (by decide) ?_
      refine v_goto 15 C dX10_within_11 (by decide) ?_
      exact v_zret C (Or.inr rfl) dX10_within_15 ⟨by simp [wI, *], rfl, rfl, rfl, rfl⟩

set_option maxHeartbeats 4000000 in
set_option maxRecDepth 100000 in
theorem c_X11_in {lnc : Launch} {E : En} {sh : List Sh} {I : IM} {J : JM} {R : RM} {x lo hi : Int32} : Ct lnc E yX11_in cX11_in 3 (some .boolean) 0 0 [.int x, .int lo, .int hi] sh I J R 0 0 (m_ret (some (.int (wI x lo hi))) sh I J R) := by
  refine Ct.of (lv := [some (.int x), some (.int lo), some (.int hi)]) (by decide) (Nat.le_of_ble_eq_true rfl) rfl (fun X hX C => ?_)
  refine v_iload_n C dX11_in_0 rfl ?_
  refine v_iload_n C dX11_in_1 rfl ?_
  refine v_icmp_lt 14 C dX11_in_2 (by decide) (fun h2 => ?_) (fun h2 => ?_)
  · refine v_iconst 0 C dX11_in_14 (by decide) ?_
    exact v_zret C (Or.inl rfl) dX11_in_15 ⟨by simp [wI, *], rfl, rfl, rfl, rfl⟩
  · refine v_iload_n C dX11_in_5 rfl ?_
    refine v_iload_n C dX11_in_6 rfl ?_
    refine v_icmp_gt 14 C dX11_in_7 (by decide) (fun h7 => ?_) (fun h7 => ?_)
    · refine v_iconst 0 C dX11_in_14 (by decide) ?_
      exact v_zret C (Or.inl rfl) dX11_in_15 ⟨by simp [wI, *], rfl, rfl, rfl, rfl⟩
    · refine v_iconst 1 C dX11_in_10 (by decide) ?_
      refine v_goto 15 C dX11_in_11 (by decide) ?_
      exact v_zret C (Or.inr rfl) dX11_in_15 ⟨by simp [wI, *], rfl, rfl, rfl, rfl⟩

set_option maxHeartbeats 4000000 in
set_option maxRecDepth 100000 in
theorem c_X10_hundredths {lnc : Launch} {E : En} {sh : List Sh} {I : IM} {J : JM} {R : RM} {x y : Int32} : Ct lnc E yX10_hundredths cX10_hundredths 3 (some .int) 0 0 [.int x, .int y] sh I J R 0 0 (m_ret (some (.int (hundF x y))) sh I J R) := by
  refine Ct.of (lv := [some (.int x), some (.int y), none]) (by decide) (Nat.le_of_ble_eq_true rfl) rfl (fun X hX C => ?_)
  refine v_iload_n C dX10_hundredths_0 rfl ?_
  refine v_iload_n C dX10_hundredths_1 rfl ?_
  refine v_iadd C dX10_hundredths_2 ?_
  refine v_istore_n C dX10_hundredths_3 (Nat.le_of_ble_eq_true rfl) rfl ?_
  refine v_iload_n C dX10_hundredths_4 rfl ?_
  refine v_if_le 17 C dX10_hundredths_5 (by decide) (fun h5 => ?_) (fun h5 => ?_)
  · refine v_iconst 0 C dX10_hundredths_17 (by decide) ?_
    exact v_iret C dX10_hundredths_18 ⟨by simp [hundF, *], rfl, rfl, rfl, rfl⟩
  · refine v_bipush 100 C dX10_hundredths_8 (by decide) ?_
    refine v_iload_n C dX10_hundredths_10 rfl ?_
    refine v_imul C dX10_hundredths_11 ?_
    refine v_iload_n C dX10_hundredths_12 rfl ?_
    refine v_idiv C dX10_hundredths_13 (ne_of_nle h5) ?_
    refine v_goto 18 C dX10_hundredths_14 (by decide) ?_
    exact v_iret C dX10_hundredths_18 ⟨by simp [hundF, *], rfl, rfl, rfl, rfl⟩

set_option maxHeartbeats 4000000 in
set_option maxRecDepth 100000 in
theorem c_X10_atEnd {lnc : Launch} {E : En} {sh : List Sh} {I : IM} {J : JM} {R : RM} {a : Nat} (hsh : sh[a]? = some (.inl 10)) : Ct lnc E yX10_atEnd cX10_atEnd 1 (some .boolean) 0 0 [.ref a] sh I J R 0 0 (m_ret (some (.int (endF (I a 11)))) sh I J R) := by
  refine Ct.of (lv := [some (.ref a)]) (by decide) (Nat.le_of_ble_eq_true rfl) rfl (fun X hX C => ?_)
  refine v_aload_n C dX10_atEnd_0 rfl ?_
  refine v_getI C fl_RX10_211 rfl hsh dX10_atEnd_1 ?_
  refine v_sipush 5000 C dX10_atEnd_4 (by decide) ?_
  refine v_icmp_lt 14 C dX10_atEnd_7 (by decide) (fun h7 => ?_) (fun h7 => ?_)
  · refine v_iconst 0 C dX10_atEnd_14 (by decide) ?_
    exact v_zret C (Or.inl rfl) dX10_atEnd_15 ⟨by simp [endF, *], rfl, rfl, rfl, rfl⟩
  · refine v_iconst 1 C dX10_atEnd_10 (by decide) ?_
    refine v_goto 15 C dX10_atEnd_11 (by decide) ?_
    exact v_zret C (Or.inr rfl) dX10_atEnd_15 ⟨by simp [endF, *], rfl, rfl, rfl, rfl⟩

set_option maxHeartbeats 4000000 in
set_option maxRecDepth 100000 in
theorem c_X10_exchange {lnc : Launch} {E : En} {sh : List Sh} {I : IM} {J : JM} {R : RM} {a n j : Nat} {i x : Int32} (hsh : sh[a]? = some (.inr (0, n))) (hj : At i n j) (hn : n < 2 ^ 31) : Ct lnc E yX10_exchange cX10_exchange 4 (some .int) 1 22 [.ref a, .int i, .int x] sh I J R 0 0 (m_ret (some (.int (I a j))) sh (iu I a j x) J R) := by
  refine Ct.of (lv := [some (.ref a), some (.int i), some (.int x), none]) (by decide) (Nat.le_of_ble_eq_true rfl) rfl (fun X hX C => ?_)
  refine v_iload_n C dX10_exchange_0 rfl ?_
  refine v_iconst 0 C dX10_exchange_1 (by decide) ?_
  refine v_aload_n C dX10_exchange_2 rfl ?_
  refine v_alen C hsh (by decide) dX10_exchange_3 ?_
  refine v_iconst 1 C dX10_exchange_4 (by decide) ?_
  refine v_isub C dX10_exchange_5 ?_
  refine v_callSi C c_X10_within mt_X10_within lk_RX10_88 rfl rfl rfl rfl rfl dX10_exchange_6 ?_
  refine v_if_ne 14 C dX10_exchange_9 (by decide) (fun h9 => ?_) (fun h9 => False.elim (ex_in hj hn h9))
  refine v_aload_n C dX10_exchange_14 rfl ?_
  refine v_iload_n C dX10_exchange_15 rfl ?_
  refine v_iaload j C hsh hj dX10_exchange_16 ?_
  refine v_istore_n C dX10_exchange_17 (Nat.le_of_ble_eq_true rfl) rfl ?_
  refine v_aload_n C dX10_exchange_18 rfl ?_
  refine v_iload_n C dX10_exchange_19 rfl ?_
  refine v_iload_n C dX10_exchange_20 rfl ?_
  refine v_iastore j C hsh hj dX10_exchange_21 ?_
  refine v_iload_n C dX10_exchange_22 rfl ?_
  exact v_iret C dX10_exchange_23 ⟨rfl, rfl, rfl, rfl, rfl⟩

set_option maxHeartbeats 4000000 in
set_option maxRecDepth 100000 in
theorem c_X7_isEmpty {lnc : Launch} {E : En} {sh : List Sh} {I : IM} {J : JM} {R : RM} {a : Nat} (hsh : sh[a]? = some (.inl 7)) : Ct lnc E yX7_isEmpty cX7_isEmpty 1 (some .boolean) 0 0 [.ref a] sh I J R 0 0 (m_ret (some (.int (emp (I a 0)))) sh I J R) := by
  refine Ct.of (lv := [some (.ref a)]) (by decide) (Nat.le_of_ble_eq_true rfl) rfl (fun X hX C => ?_)
  refine v_aload_n C dX7_isEmpty_0 rfl ?_
  refine v_getI C fl_RX7_9 rfl hsh dX7_isEmpty_1 ?_
  refine v_iconst (-1) C dX7_isEmpty_4 (by decide) ?_
  refine v_icmp_ne 12 C dX7_isEmpty_5 (by decide) (fun h5 => ?_) (fun h5 => ?_)
  · refine v_iconst 0 C dX7_isEmpty_12 (by decide) ?_
    exact v_zret C (Or.inl rfl) dX7_isEmpty_13 ⟨by simp [emp, *], rfl, rfl, rfl, rfl⟩
  · refine v_iconst 1 C dX7_isEmpty_8 (by decide) ?_
    refine v_goto 13 C dX7_isEmpty_9 (by decide) ?_
    exact v_zret C (Or.inr rfl) dX7_isEmpty_13 ⟨by simp [emp, *], rfl, rfl, rfl, rfl⟩

set_option maxHeartbeats 4000000 in
set_option maxRecDepth 100000 in
theorem c_X7_isReady {lnc : Launch} {E : En} {sh : List Sh} {I : IM} {J : JM} {R : RM} {a : Nat} (hsh : sh[a]? = some (.inl 7)) : Ct lnc E yX7_isReady cX7_isReady 1 (some .boolean) 1 20 [.ref a] sh I J R 0 0 (m_ret (some (.int (rdy (I a 0) (I a 2) (I a 3)))) sh I J R) := by
  refine Ct.of (lv := [some (.ref a)]) (by decide) (Nat.le_of_ble_eq_true rfl) rfl (fun X hX C => ?_)
  refine v_aload_n C dX7_isReady_0 rfl ?_
  refine v_callVi C (c_X7_isEmpty hsh) mt_X7_isEmpty lk_RX7_18 rfl rfl hsh rfl rfl rfl rfl rfl dX7_isReady_1 ?_
  refine v_if_ne 22 C dX7_isReady_4 (by decide) (fun h4 => ?_) (fun h4 => ?_)
  · refine v_iconst 0 C dX7_isReady_22 (by decide) ?_
    exact v_zret C (Or.inl rfl) dX7_isReady_23 ⟨by simp [emp] at h4; simp [rdy, *], rfl, rfl, rfl, rfl⟩
  · refine v_aload_n C dX7_isReady_7 rfl ?_
    refine v_getI C fl_RX7_22 rfl hsh dX7_isReady_8 ?_
    refine v_aload_n C dX7_isReady_11 rfl ?_
    refine v_getI C fl_RX7_25 rfl hsh dX7_isReady_12 ?_
    refine v_icmp_lt 22 C dX7_isReady_15 (by decide) (fun h15 => ?_) (fun h15 => ?_)
    · refine v_iconst 0 C dX7_isReady_22 (by decide) ?_
      exact v_zret C (Or.inl rfl) dX7_isReady_23 ⟨by simp [emp] at h4; simp [rdy, *], rfl, rfl, rfl, rfl⟩
    · refine v_iconst 1 C dX7_isReady_18 (by decide) ?_
      refine v_goto 23 C dX7_isReady_19 (by decide) ?_
      exact v_zret C (Or.inr rfl) dX7_isReady_23 ⟨by simp [emp] at h4; simp [rdy, *], rfl, rfl, rfl, rfl⟩

set_option maxHeartbeats 4000000 in
set_option maxRecDepth 100000 in
theorem c_X7_fill {lnc : Launch} {E : En} {sh : List Sh} {I : IM} {J : JM} {R : RM} {a : Nat} {n s h b : Int32} (hsh : sh[a]? = some (.inl 7)) : Ct lnc E yX7_fill cX7_fill 6 none 0 0 [.ref a, .int n, .int s, .int h, .int b] sh I J R 0 0 (m_ret none sh (fillI I a n s h b) J R) := by
  refine Ct.of (lv := [some (.ref a), some (.int n), some (.int s), some (.int h), some (.int b), none]) (by decide) (Nat.le_of_ble_eq_true rfl) rfl (fun X hX C => ?_)
  refine v_iload_n C dX7_fill_0 rfl ?_
  refine v_iload_n C dX7_fill_1 rfl ?_
  refine v_iadd C dX7_fill_2 ?_
  refine v_iload C dX7_fill_3 rfl ?_
  refine v_iadd C dX7_fill_5 ?_
  refine v_istore C dX7_fill_6 (Nat.le_of_ble_eq_true rfl) rfl ?_
  refine v_aload_n C dX7_fill_8 rfl ?_
  refine v_iload_n C dX7_fill_9 rfl ?_
  refine v_putI C fl_RX7_9 rfl hsh dX7_fill_10 ?_
  refine v_aload_n C dX7_fill_13 rfl ?_
  refine v_iload_n C dX7_fill_14 rfl ?_
  refine v_iload_n C dX7_fill_15 rfl ?_
  refine v_iconst 2 C dX7_fill_16 (by decide) ?_
  refine v_idiv C dX7_fill_17 (by decide) ?_
  refine v_iadd C dX7_fill_18 ?_
  refine v_iload C dX7_fill_19 rfl ?_
  refine v_iadd C dX7_fill_21 ?_
  refine v_putI C fl_RX7_28 rfl hsh dX7_fill_22 ?_
  refine v_aload_n C dX7_fill_25 rfl ?_
  refine v_iconst 0 C dX7_fill_26 (by decide) ?_
  refine v_putI C fl_RX7_22 rfl hsh dX7_fill_27 ?_
  refine v_aload_n C dX7_fill_30 rfl ?_
  refine v_iload C dX7_fill_31 rfl ?_
  refine v_if_le 57 C dX7_fill_33 (by decide) (fun h33 => ?_) (fun h33 => ?_)
  · refine v_iconst 0 C dX7_fill_57 (by decide) ?_
    refine v_putI C fl_RX7_25 rfl hsh dX7_fill_58 ?_
    exact v_vret C dX7_fill_61 ⟨rfl, rfl, by simp [fillI, needF, *], rfl, rfl⟩
  · refine v_bipush 60 C dX7_fill_36 (by decide) ?_
    refine v_iload_n C dX7_fill_38 rfl ?_
    refine v_imul C dX7_fill_39 ?_
    refine v_bipush 10 C dX7_fill_40 (by decide) ?_
    refine v_iload_n C dX7_fill_42 rfl ?_
    refine v_imul C dX7_fill_43 ?_
    refine v_iadd C dX7_fill_44 ?_
    refine v_bipush 20 C dX7_fill_45 (by decide) ?_
    refine v_iload C dX7_fill_47 rfl ?_
    refine v_imul C dX7_fill_49 ?_
    refine v_iadd C dX7_fill_50 ?_
    refine v_iload C dX7_fill_51 rfl ?_
    refine v_idiv C dX7_fill_53 (ne_of_nle h33) ?_
    refine v_goto 58 C dX7_fill_54 (by decide) ?_
    refine v_putI C fl_RX7_25 rfl hsh dX7_fill_58 ?_
    exact v_vret C dX7_fill_61 ⟨rfl, rfl, by simp [fillI, needF, *], rfl, rfl⟩

set_option maxHeartbeats 4000000 in
set_option maxRecDepth 100000 in
theorem c_X7_clear {lnc : Launch} {E : En} {sh : List Sh} {I : IM} {J : JM} {R : RM} {a : Nat} (hsh : sh[a]? = some (.inl 7)) : Ct lnc E yX7_clear cX7_clear 1 none 0 0 [.ref a] sh I J R 0 0 (m_ret none sh (clearI I a) J R) := by
  refine Ct.of (lv := [some (.ref a)]) (by decide) (Nat.le_of_ble_eq_true rfl) rfl (fun X hX C => ?_)
  refine v_aload_n C dX7_clear_0 rfl ?_
  refine v_iconst (-1) C dX7_clear_1 (by decide) ?_
  refine v_putI C fl_RX7_9 rfl hsh dX7_clear_2 ?_
  refine v_aload_n C dX7_clear_5 rfl ?_
  refine v_iconst 0 C dX7_clear_6 (by decide) ?_
  refine v_putI C fl_RX7_28 rfl hsh dX7_clear_7 ?_
  exact v_vret C dX7_clear_10 ⟨rfl, rfl, rfl, rfl, rfl⟩

set_option maxHeartbeats 4000000 in
set_option maxRecDepth 100000 in
theorem c_X7_melt {lnc : Launch} {E : En} {sh : List Sh} {I : IM} {J : JM} {R : RM} {a : Nat} {h : Int32} (hsh : sh[a]? = some (.inl 7)) : Ct lnc E yX7_melt cX7_melt 2 none 2 40 [.ref a, .int h] sh I J R 0 0 (m_ret none sh (iu I a 2 (meltD (I a 0) (I a 2) (I a 3) h)) J R) := by
  refine Ct.of (lv := [some (.ref a), some (.int h)]) (by decide) (Nat.le_of_ble_eq_true rfl) rfl (fun X hX C => ?_)
  refine v_aload_n C dX7_melt_0 rfl ?_
  refine v_callVi C (c_X7_isEmpty hsh) mt_X7_isEmpty lk_RX7_18 rfl rfl hsh rfl rfl rfl rfl rfl dX7_melt_1 ?_
  refine v_if_eq 8 C dX7_melt_4 (by decide) (fun h4 => ?_) (fun h4 => ?_)
  · refine v_iload_n C dX7_melt_8 rfl ?_
    refine v_sipush 1100 C dX7_melt_9 (by decide) ?_
    refine v_icmp_lt 39 C dX7_melt_12 (by decide) (fun h12 => ?_) (fun h12 => ?_)
    · refine v_iload_n C dX7_melt_39 rfl ?_
      refine v_sipush 800 C dX7_melt_40 (by decide) ?_
      refine v_icmp_ge 67 C dX7_melt_43 (by decide) (fun h43 => ?_) (fun h43 => ?_)
      · exact v_vret C dX7_melt_67 ⟨rfl, rfl, by simp [emp] at h4; simp [meltD, iu_self, *], rfl, rfl⟩
      · refine v_aload_n C dX7_melt_46 rfl ?_
        refine v_callVi C (c_X7_isReady hsh) mt_X7_isReady lk_RX7_31 rfl rfl hsh rfl rfl rfl rfl rfl dX7_melt_47 ?_
        refine v_if_ne 67 C dX7_melt_50 (by decide) (fun h50 => ?_) (fun h50 => ?_)
        · exact v_vret C dX7_melt_67 ⟨rfl, rfl, by simp [emp] at h4; simp [meltD, iu_self, *], rfl, rfl⟩
        · refine v_aload_n C dX7_melt_53 rfl ?_
          refine v_iconst 0 C dX7_melt_54 (by decide) ?_
          refine v_aload_n C dX7_melt_55 rfl ?_
          refine v_getI C fl_RX7_22 rfl hsh dX7_melt_56 ?_
          refine v_iconst 1 C dX7_melt_59 (by decide) ?_
          refine v_isub C dX7_melt_60 ?_
          refine v_mmax C lk_RX7_34 math_max_st ini_Math0 math_max_code rfl (Nat.le_of_ble_eq_true rfl) (Nat.le_of_ble_eq_true rfl) (Nat.le_of_ble_eq_true rfl) (Nat.le_of_ble_eq_true rfl) dX7_melt_61 ?_
          refine v_putI C fl_RX7_22 rfl hsh dX7_melt_64 ?_
          exact v_vret C dX7_melt_67 ⟨rfl, rfl, by simp [emp] at h4; simp [meltD, iu_self, *], rfl, rfl⟩
    · refine v_aload_n C dX7_melt_15 rfl ?_
      refine v_dupr C dX7_melt_16 ?_
      refine v_getI C fl_RX7_22 rfl hsh dX7_melt_17 ?_
      refine v_iload_n C dX7_melt_20 rfl ?_
      refine v_sipush 1300 C dX7_melt_21 (by decide) ?_
      refine v_icmp_lt 31 C dX7_melt_24 (by decide) (fun h24 => ?_) (fun h24 => ?_)
      · refine v_iconst 2 C dX7_melt_31 (by decide) ?_
        refine v_iadd C dX7_melt_32 ?_
        refine v_putI C fl_RX7_22 rfl hsh dX7_melt_33 ?_
        refine v_goto 67 C dX7_melt_36 (by decide) ?_
        exact v_vret C dX7_melt_67 ⟨rfl, rfl, by simp [emp] at h4; simp [meltD, iu_self, *], rfl, rfl⟩
      · refine v_iconst 3 C dX7_melt_27 (by decide) ?_
        refine v_goto 32 C dX7_melt_28 (by decide) ?_
        refine v_iadd C dX7_melt_32 ?_
        refine v_putI C fl_RX7_22 rfl hsh dX7_melt_33 ?_
        refine v_goto 67 C dX7_melt_36 (by decide) ?_
        exact v_vret C dX7_melt_67 ⟨rfl, rfl, by simp [emp] at h4; simp [meltD, iu_self, *], rfl, rfl⟩
  · exact v_vret C dX7_melt_7 ⟨rfl, rfl, by simp [emp] at h4; simp [meltD, iu_self, *], rfl, rfl⟩

set_option maxHeartbeats 4000000 in
set_option maxRecDepth 100000 in
theorem c_X7_takeGlass {lnc : Launch} {E : En} {sh : List Sh} {I : IM} {J : JM} {R : RM} {a : Nat} {w : Int32} (hsh : sh[a]? = some (.inl 7)) : Ct lnc E yX7_takeGlass cX7_takeGlass 2 none 1 20 [.ref a, .int w] sh I J R 0 0 (m_ret none sh (takeI I a w) J R) := by
  refine Ct.of (lv := [some (.ref a), some (.int w)]) (by decide) (Nat.le_of_ble_eq_true rfl) rfl (fun X hX C => ?_)
  refine v_aload_n C dX7_takeGlass_0 rfl ?_
  refine v_dupr C dX7_takeGlass_1 ?_
  refine v_getI C fl_RX7_28 rfl hsh dX7_takeGlass_2 ?_
  refine v_iload_n C dX7_takeGlass_5 rfl ?_
  refine v_isub C dX7_takeGlass_6 ?_
  refine v_putI C fl_RX7_28 rfl hsh dX7_takeGlass_7 ?_
  refine v_aload_n C dX7_takeGlass_10 rfl ?_
  refine v_getI C fl_RX7_28 rfl hsh dX7_takeGlass_11 ?_
  refine v_if_gt 21 C dX7_takeGlass_14 (by decide) (fun h14 => ?_) (fun h14 => ?_)
  · exact v_vret C dX7_takeGlass_21 ⟨rfl, rfl, by rw [iu_same] at h14; simp [takeI, *], rfl, rfl⟩
  · refine v_aload_n C dX7_takeGlass_17 rfl ?_
    refine v_callVv C (c_X7_clear hsh) mt_X7_clear lk_RX7_40 rfl rfl hsh rfl rfl rfl rfl rfl dX7_takeGlass_18 ?_
    exact v_vret C dX7_takeGlass_21 ⟨rfl, rfl, by rw [iu_same] at h14; simp [takeI, *], rfl, rfl⟩

def potT (b g d n c x : Int32) : Int32 := if b = -1 then -1 else selT x [b, g, d, n, rdy b d n, c]
theorem rdy_01 {b d n : Int32} (h : ¬ rdy b d n = 0) : rdy b d n = 1 := by
  unfold rdy at h ⊢
  split at h
  · exact absurd rfl h
  · split at h
    · exact absurd rfl h
    · rename_i h1 h2; rw [if_neg h1, if_neg h2]

set_option maxHeartbeats 4000000 in
set_option maxRecDepth 100000 in
theorem c_X7_tell {lnc : Launch} {E : En} {sh : List Sh} {I : IM} {J : JM} {R : RM} {a : Nat} {x : Int32} (hsh : sh[a]? = some (.inl 7)) : Ct lnc E yX7_tell cX7_tell 2 (some .int) 2 40 [.ref a, .int x] sh I J R 0 0 (m_ret (some (.int (potT (I a 0) (I a 1) (I a 2) (I a 3) (I a 4) x))) sh I J R) := by
  refine Ct.of (lv := [some (.ref a), some (.int x)]) (by decide) (Nat.le_of_ble_eq_true rfl) rfl (fun X hX C => ?_)
  refine v_aload_n C dX7_tell_0 rfl ?_
  refine v_callVi C (c_X7_isEmpty hsh) mt_X7_isEmpty lk_RX7_18 rfl rfl hsh rfl rfl rfl rfl rfl dX7_tell_1 ?_
  refine v_if_eq 9 C dX7_tell_4 (by decide) (fun h4 => ?_) (fun h4 => ?_)
  · refine v_iload_n C dX7_tell_9 rfl ?_
    rcases sw_split x 5 (by decide) with hsw | ⟨jsw, hjsw, hxsw⟩
    · refine v_tableOut 86 C dX7_tell_10 (sw_out hsw) (by decide) ?_
      refine v_iconst (-1) C dX7_tell_86 (by decide) ?_
      exact v_iret C dX7_tell_87 ⟨by simp [emp] at h4; unfold potT; rw [if_neg h4, selT_out hsw rfl (by decide)], rfl, rfl, rfl, rfl⟩
    · rcases (show jsw = 0 ∨ jsw = 1 ∨ jsw = 2 ∨ jsw = 3 ∨ jsw = 4 ∨ jsw = 5 by omega) with hj | hj | hj | hj | hj | hj
      · have hxe : x = 0 := by rw [hxsw, hj]; rfl
        refine v_tableIn 48 C dX7_tell_10 (by rw [hxe]; decide) (by rw [hxe]; decide) (by rw [hxe]; rfl) (by decide) ?_
        refine v_aload_n C dX7_tell_48 rfl ?_
        refine v_getI C fl_RX7_9 rfl hsh dX7_tell_49 ?_
        exact v_iret C dX7_tell_52 ⟨by rw [hxe]; simp [emp] at h4; unfold potT; rw [if_neg h4]; rfl, rfl, rfl, rfl, rfl⟩
      · have hxe : x = 1 := by rw [hxsw, hj]; rfl
        refine v_tableIn 53 C dX7_tell_10 (by rw [hxe]; decide) (by rw [hxe]; decide) (by rw [hxe]; rfl) (by decide) ?_
        refine v_aload_n C dX7_tell_53 rfl ?_
        refine v_getI C fl_RX7_28 rfl hsh dX7_tell_54 ?_
        exact v_iret C dX7_tell_57 ⟨by rw [hxe]; simp [emp] at h4; unfold potT; rw [if_neg h4]; rfl, rfl, rfl, rfl, rfl⟩
      · have hxe : x = 2 := by rw [hxsw, hj]; rfl
        refine v_tableIn 58 C dX7_tell_10 (by rw [hxe]; decide) (by rw [hxe]; decide) (by rw [hxe]; rfl) (by decide) ?_
        refine v_aload_n C dX7_tell_58 rfl ?_
        refine v_getI C fl_RX7_22 rfl hsh dX7_tell_59 ?_
        exact v_iret C dX7_tell_62 ⟨by rw [hxe]; simp [emp] at h4; unfold potT; rw [if_neg h4]; rfl, rfl, rfl, rfl, rfl⟩
      · have hxe : x = 3 := by rw [hxsw, hj]; rfl
        refine v_tableIn 63 C dX7_tell_10 (by rw [hxe]; decide) (by rw [hxe]; decide) (by rw [hxe]; rfl) (by decide) ?_
        refine v_aload_n C dX7_tell_63 rfl ?_
        refine v_getI C fl_RX7_25 rfl hsh dX7_tell_64 ?_
        exact v_iret C dX7_tell_67 ⟨by rw [hxe]; simp [emp] at h4; unfold potT; rw [if_neg h4]; rfl, rfl, rfl, rfl, rfl⟩
      · have hxe : x = 4 := by rw [hxsw, hj]; rfl
        refine v_tableIn 68 C dX7_tell_10 (by rw [hxe]; decide) (by rw [hxe]; decide) (by rw [hxe]; rfl) (by decide) ?_
        refine v_aload_n C dX7_tell_68 rfl ?_
        refine v_callVi C (c_X7_isReady hsh) mt_X7_isReady lk_RX7_31 rfl rfl hsh rfl rfl rfl rfl rfl dX7_tell_69 ?_
        refine v_if_eq 79 C dX7_tell_72 (by decide) (fun h72 => ?_) (fun h72 => ?_)
        · refine v_iconst 0 C dX7_tell_79 (by decide) ?_
          exact v_iret C dX7_tell_80 ⟨by rw [hxe]; simp [emp] at h4; unfold potT; rw [if_neg h4]; first | (rw [rdy_01 h72]; rfl) | (rw [h72]; rfl), rfl, rfl, rfl, rfl⟩
        · refine v_iconst 1 C dX7_tell_75 (by decide) ?_
          refine v_goto 80 C dX7_tell_76 (by decide) ?_
          exact v_iret C dX7_tell_80 ⟨by rw [hxe]; simp [emp] at h4; unfold potT; rw [if_neg h4]; first | (rw [rdy_01 h72]; rfl) | (rw [h72]; rfl), rfl, rfl, rfl, rfl⟩
      · have hxe : x = 5 := by rw [hxsw, hj]; rfl
        refine v_tableIn 81 C dX7_tell_10 (by rw [hxe]; decide) (by rw [hxe]; decide) (by rw [hxe]; rfl) (by decide) ?_
        refine v_aload_n C dX7_tell_81 rfl ?_
        refine v_getI C fl_RX7_15 rfl hsh dX7_tell_82 ?_
        exact v_iret C dX7_tell_85 ⟨by rw [hxe]; simp [emp] at h4; unfold potT; rw [if_neg h4]; rfl, rfl, rfl, rfl, rfl⟩
  · refine v_iconst (-1) C dX7_tell_7 (by decide) ?_
    exact v_iret C dX7_tell_8 ⟨by simp [emp] at h4; simp [potT, h4], rfl, rfl, rfl, rfl⟩

set_option maxHeartbeats 4000000 in
set_option maxRecDepth 100000 in
theorem c_X4_latestBreaks {lnc : Launch} {E : En} {sh : List Sh} {I : IM} {J : JM} {R : RM} {a : Nat} (hsh : sh[a]? = some (.inl 4)) : Ct lnc E yX4_latestBreaks cX4_latestBreaks 1 (some .boolean) 0 0 [.ref a] sh I J R 0 0 (m_ret (some (.int (brk (I a 5) (I a 7)))) sh I J R) := by
  refine Ct.of (lv := [some (.ref a)]) (by decide) (Nat.le_of_ble_eq_true rfl) rfl (fun X hX C => ?_)
  refine v_aload_n C dX4_latestBreaks_0 rfl ?_
  refine v_getI C fl_RX4_9 rfl hsh dX4_latestBreaks_1 ?_
  refine v_if_le 23 C dX4_latestBreaks_4 (by decide) (fun h4 => ?_) (fun h4 => ?_)
  · refine v_iconst 0 C dX4_latestBreaks_23 (by decide) ?_
    exact v_zret C (Or.inl rfl) dX4_latestBreaks_24 ⟨by simp [brk, *], rfl, rfl, rfl, rfl⟩
  · refine v_aload_n C dX4_latestBreaks_7 rfl ?_
    refine v_getI C fl_RX4_15 rfl hsh dX4_latestBreaks_8 ?_
    refine v_aload_n C dX4_latestBreaks_11 rfl ?_
    refine v_getI C fl_RX4_9 rfl hsh dX4_latestBreaks_12 ?_
    refine v_irem C dX4_latestBreaks_15 (ne_of_nle h4) ?_
    refine v_if_ne 23 C dX4_latestBreaks_16 (by decide) (fun h16 => ?_) (fun h16 => ?_)
    · refine v_iconst 0 C dX4_latestBreaks_23 (by decide) ?_
      exact v_zret C (Or.inl rfl) dX4_latestBreaks_24 ⟨by simp [brk, *], rfl, rfl, rfl, rfl⟩
    · refine v_iconst 1 C dX4_latestBreaks_19 (by decide) ?_
      refine v_goto 24 C dX4_latestBreaks_20 (by decide) ?_
      exact v_zret C (Or.inr rfl) dX4_latestBreaks_24 ⟨by simp [brk, *], rfl, rfl, rfl, rfl⟩

set_option maxHeartbeats 4000000 in
set_option maxRecDepth 100000 in
theorem c_X4_suits {lnc : Launch} {E : En} {sh : List Sh} {I : IM} {J : JM} {R : RM} {a : Nat} {w : Int32} (hsh : sh[a]? = some (.inl 4)) : Ct lnc E yX4_suits cX4_suits 2 (some .boolean) 0 0 [.ref a, .int w] sh I J R 0 0 (m_ret (some (.int (suitF (I a 0) (I a 4) w))) sh I J R) := by
  refine Ct.of (lv := [some (.ref a), some (.int w)]) (by decide) (Nat.le_of_ble_eq_true rfl) rfl (fun X hX C => ?_)
  refine v_aload_n C dX4_suits_0 rfl ?_
  refine v_getI C fl_RX4_18 rfl hsh dX4_suits_1 ?_
  refine v_if_eq 27 C dX4_suits_4 (by decide) (fun h4 => ?_) (fun h4 => ?_)
  · refine v_iconst 0 C dX4_suits_27 (by decide) ?_
    exact v_zret C (Or.inl rfl) dX4_suits_28 ⟨by simp [suitF, *], rfl, rfl, rfl, rfl⟩
  · refine v_aload_n C dX4_suits_7 rfl ?_
    refine v_getI C fl_RX4_22 rfl hsh dX4_suits_8 ?_
    refine v_iconst (-1) C dX4_suits_11 (by decide) ?_
    refine v_icmp_eq 23 C dX4_suits_12 (by decide) (fun h12 => ?_) (fun h12 => ?_)
    · refine v_iconst 1 C dX4_suits_23 (by decide) ?_
      refine v_goto 28 C dX4_suits_24 (by decide) ?_
      exact v_zret C (Or.inr rfl) dX4_suits_28 ⟨by simp [suitF, *], rfl, rfl, rfl, rfl⟩
    · refine v_aload_n C dX4_suits_15 rfl ?_
      refine v_getI C fl_RX4_22 rfl hsh dX4_suits_16 ?_
      refine v_iload_n C dX4_suits_19 rfl ?_
      refine v_icmp_ne 27 C dX4_suits_20 (by decide) (fun h20 => ?_) (fun h20 => ?_)
      · refine v_iconst 0 C dX4_suits_27 (by decide) ?_
        exact v_zret C (Or.inl rfl) dX4_suits_28 ⟨by simp [suitF, *], rfl, rfl, rfl, rfl⟩
      · refine v_iconst 1 C dX4_suits_23 (by decide) ?_
        refine v_goto 28 C dX4_suits_24 (by decide) ?_
        exact v_zret C (Or.inr rfl) dX4_suits_28 ⟨by simp [suitF, *], rfl, rfl, rfl, rfl⟩

set_option maxHeartbeats 4000000 in
set_option maxRecDepth 100000 in
theorem c_X6_init {lnc : Launch} {E : En} {sh : List Sh} {I : IM} {J : JM} {R : RM} {a b : Nat} {k g n h : Int32} (hsh : sh[a]? = some (.inl 6)) (hsb : sh[b]? = some (.inl 4)) (hab : b ≠ a) : Ct lnc E yX6_init cX6_init 6 none 1 20 [.ref a, .int k, .int g, .int n, .int h, .ref b] sh I J R 0 0 (m_ret none sh (newP I a k g n h (I b 1) (I b 6)) J R) := by
  refine Ct.of (lv := [some (.ref a), some (.int k), some (.int g), some (.int n), some (.int h), some (.ref b)]) (by decide) (Nat.le_of_ble_eq_true rfl) rfl (fun X hX C => ?_)
  refine v_aload_n C dX6_init_0 rfl ?_
  refine v_objInit C lk_RX6_3 obj_inst obj_code rfl (Nat.le_of_ble_eq_true rfl) (Nat.le_of_ble_eq_true rfl) dX6_init_1 ?_
  refine v_aload_n C dX6_init_4 rfl ?_
  refine v_iconst 0 C dX6_init_5 (by decide) ?_
  refine v_putI C fl_RX6_11 rfl hsh dX6_init_6 ?_
  refine v_aload_n C dX6_init_9 rfl ?_
  refine v_iconst (-1) C dX6_init_10 (by decide) ?_
  refine v_putI C fl_RX6_15 rfl hsh dX6_init_11 ?_
  refine v_aload_n C dX6_init_14 rfl ?_
  refine v_iload_n C dX6_init_15 rfl ?_
  refine v_putFI C fl_RX6_18 rfl rfl rfl hsh dX6_init_16 ?_
  refine v_aload_n C dX6_init_19 rfl ?_
  refine v_iload_n C dX6_init_20 rfl ?_
  refine v_putFI C fl_RX6_21 rfl rfl rfl hsh dX6_init_21 ?_
  refine v_aload_n C dX6_init_24 rfl ?_
  refine v_iload_n C dX6_init_25 rfl ?_
  refine v_putFI C fl_RX6_24 rfl rfl rfl hsh dX6_init_26 ?_
  refine v_aload_n C dX6_init_29 rfl ?_
  refine v_iload C dX6_init_30 rfl ?_
  refine v_putFI C fl_RX6_27 rfl rfl rfl hsh dX6_init_32 ?_
  refine v_aload_n C dX6_init_35 rfl ?_
  refine v_aload C dX6_init_36 rfl ?_
  refine v_getI C fl_RX6_30 rfl hsb dX6_init_38 ?_
  refine v_putFI C fl_RX6_35 rfl rfl rfl hsh dX6_init_41 ?_
  refine v_aload_n C dX6_init_44 rfl ?_
  refine v_aload C dX6_init_45 rfl ?_
  refine v_getI C fl_RX6_36 rfl hsb dX6_init_47 ?_
  refine v_putFI C fl_RX6_39 rfl rfl rfl hsh dX6_init_50 ?_
  exact v_vret C dX6_init_53 ⟨rfl, rfl, by simp [newP, iu_o, *], rfl, rfl⟩

set_option maxHeartbeats 4000000 in
set_option maxRecDepth 100000 in
theorem c_X6_tell {lnc : Launch} {E : En} {sh : List Sh} {I : IM} {J : JM} {R : RM} {a : Nat} {x : Int32} (hsh : sh[a]? = some (.inl 6)) : Ct lnc E yX6_tell cX6_tell 2 (some .int) 0 0 [.ref a, .int x] sh I J R 0 0 (m_ret (some (.int (selT x [I a 0, I a 1, I a 2, I a 3, I a 6, I a 7, I a 8]))) sh I J R) := by
  refine Ct.of (lv := [some (.ref a), some (.int x)]) (by decide) (Nat.le_of_ble_eq_true rfl) rfl (fun X hX C => ?_)
  refine v_iload_n C dX6_tell_0 rfl ?_
  rcases sw_split x 6 (by decide) with hsw | ⟨jsw, hjsw, hxsw⟩
  · refine v_tableOut 79 C dX6_tell_1 (sw_out hsw) (by decide) ?_
    refine v_iconst (-1) C dX6_tell_79 (by decide) ?_
    exact v_iret C dX6_tell_80 ⟨by rw [selT_out hsw rfl (by decide)], rfl, rfl, rfl, rfl⟩
  · rcases (show jsw = 0 ∨ jsw = 1 ∨ jsw = 2 ∨ jsw = 3 ∨ jsw = 4 ∨ jsw = 5 ∨ jsw = 6 by omega) with hj | hj | hj | hj | hj | hj | hj
    · have hxe : x = 0 := by rw [hxsw, hj]; rfl
      refine v_tableIn 44 C dX6_tell_1 (by rw [hxe]; decide) (by rw [hxe]; decide) (by rw [hxe]; rfl) (by decide) ?_
      refine v_aload_n C dX6_tell_44 rfl ?_
      refine v_getI C fl_RX6_18 rfl hsh dX6_tell_45 ?_
      exact v_iret C dX6_tell_48 ⟨by rw [hxe]; rfl, rfl, rfl, rfl, rfl⟩
    · have hxe : x = 1 := by rw [hxsw, hj]; rfl
      refine v_tableIn 49 C dX6_tell_1 (by rw [hxe]; decide) (by rw [hxe]; decide) (by rw [hxe]; rfl) (by decide) ?_
      refine v_aload_n C dX6_tell_49 rfl ?_
      refine v_getI C fl_RX6_21 rfl hsh dX6_tell_50 ?_
      exact v_iret C dX6_tell_53 ⟨by rw [hxe]; rfl, rfl, rfl, rfl, rfl⟩
    · have hxe : x = 2 := by rw [hxsw, hj]; rfl
      refine v_tableIn 54 C dX6_tell_1 (by rw [hxe]; decide) (by rw [hxe]; decide) (by rw [hxe]; rfl) (by decide) ?_
      refine v_aload_n C dX6_tell_54 rfl ?_
      refine v_getI C fl_RX6_24 rfl hsh dX6_tell_55 ?_
      exact v_iret C dX6_tell_58 ⟨by rw [hxe]; rfl, rfl, rfl, rfl, rfl⟩
    · have hxe : x = 3 := by rw [hxsw, hj]; rfl
      refine v_tableIn 59 C dX6_tell_1 (by rw [hxe]; decide) (by rw [hxe]; decide) (by rw [hxe]; rfl) (by decide) ?_
      refine v_aload_n C dX6_tell_59 rfl ?_
      refine v_getI C fl_RX6_27 rfl hsh dX6_tell_60 ?_
      exact v_iret C dX6_tell_63 ⟨by rw [hxe]; rfl, rfl, rfl, rfl, rfl⟩
    · have hxe : x = 4 := by rw [hxsw, hj]; rfl
      refine v_tableIn 64 C dX6_tell_1 (by rw [hxe]; decide) (by rw [hxe]; decide) (by rw [hxe]; rfl) (by decide) ?_
      refine v_aload_n C dX6_tell_64 rfl ?_
      refine v_getI C fl_RX6_11 rfl hsh dX6_tell_65 ?_
      exact v_iret C dX6_tell_68 ⟨by rw [hxe]; rfl, rfl, rfl, rfl, rfl⟩
    · have hxe : x = 5 := by rw [hxsw, hj]; rfl
      refine v_tableIn 69 C dX6_tell_1 (by rw [hxe]; decide) (by rw [hxe]; decide) (by rw [hxe]; rfl) (by decide) ?_
      refine v_aload_n C dX6_tell_69 rfl ?_
      refine v_getI C fl_RX6_15 rfl hsh dX6_tell_70 ?_
      exact v_iret C dX6_tell_73 ⟨by rw [hxe]; rfl, rfl, rfl, rfl, rfl⟩
    · have hxe : x = 6 := by rw [hxsw, hj]; rfl
      refine v_tableIn 74 C dX6_tell_1 (by rw [hxe]; decide) (by rw [hxe]; decide) (by rw [hxe]; rfl) (by decide) ?_
      refine v_aload_n C dX6_tell_74 rfl ?_
      refine v_getI C fl_RX6_40 rfl hsh dX6_tell_75 ?_
      exact v_iret C dX6_tell_78 ⟨by rw [hxe]; rfl, rfl, rfl, rfl, rfl⟩

set_option maxHeartbeats 4000000 in
set_option maxRecDepth 100000 in
theorem c_X0_hasRoom {lnc : Launch} {E : En} {sh : List Sh} {I : IM} {J : JM} {R : RM} {a : Nat} (hsh : sh[a]? = some (.inl 0)) : Ct lnc E yX0_hasRoom cX0_hasRoom 1 (some .boolean) 0 0 [.ref a] sh I J R 0 0 (m_ret (some (.int (roomF (I a 1)))) sh I J R) := by
  refine Ct.of (lv := [some (.ref a)]) (by decide) (Nat.le_of_ble_eq_true rfl) rfl (fun X hX C => ?_)
  refine v_aload_n C dX0_hasRoom_0 rfl ?_
  refine v_getI C fl_RX0_15 rfl hsh dX0_hasRoom_1 ?_
  refine v_bipush 20 C dX0_hasRoom_4 (by decide) ?_
  refine v_icmp_ge 13 C dX0_hasRoom_6 (by decide) (fun h6 => ?_) (fun h6 => ?_)
  · refine v_iconst 0 C dX0_hasRoom_13 (by decide) ?_
    exact v_zret C (Or.inl rfl) dX0_hasRoom_14 ⟨by simp [roomF, *], rfl, rfl, rfl, rfl⟩
  · refine v_iconst 1 C dX0_hasRoom_9 (by decide) ?_
    refine v_goto 14 C dX0_hasRoom_10 (by decide) ?_
    exact v_zret C (Or.inr rfl) dX0_hasRoom_14 ⟨by simp [roomF, *], rfl, rfl, rfl, rfl⟩
