set_option maxHeartbeats 4000000 in
set_option maxRecDepth 100000 in
theorem c_X2_init {lnc : Launch} {E : En} {sh : List Sh} {I : IM} {J : JM} {R : RM} {a n0 n1 : Nat} (hsa : sh[a]? = some (.inl 2)) (hB0 : Blank sh I J R) (h0 : sh.length = n0) (h1 : n0 + 1 = n1) : Ct lnc E yX2_init cX2_init 1 none 1 20 [.ref a] sh I J R 2 10 (m_ret none (sh ++ [.inr (0, 5)] ++ [.inr (0, 5)]) I J (ru (ru R a 0 (some n0)) a 1 (some n1))) := by
  refine Ct.of (lv := [some (.ref a)]) (by decide) (Nat.le_of_ble_eq_true rfl) rfl (fun X hX C => ?_)
  refine v_aload_n C dX2_init_0 rfl ?_
  refine v_objInit C lk_RX2_3 obj_inst obj_code rfl (Nat.le_of_ble_eq_true rfl) (Nat.le_of_ble_eq_true rfl) dX2_init_1 ?_
  refine v_aload_n C dX2_init_4 rfl ?_
  refine v_iconst 5 C dX2_init_5 (by decide) ?_
  refine v_newIA 5 n0 (sh ++ [Sum.inr (0, 5)]) h0 rfl hB0 C ac_int (by decide) (by decide) (Nat.le_of_ble_eq_true rfl) (Nat.le_of_ble_eq_true rfl) (Nat.le_of_ble_eq_true rfl) dX2_init_6 ?_
  have hsa : (sh ++ [Sum.inr (0, 5)])[a]? = some (.inl 2) := sh_app hsa
  have hl0 : sh.length = n0 := h0
  refine v_putFR C fl_RX2_9 rfl rfl rfl rfl rfl hsa dX2_init_8 ?_
  have hB1 := (hB0.grow (sh2 := (sh ++ [Sum.inr (0, 5)])) (by simp only [List.length_append]; omega)).ru (a := a) (k := 0) (x := some n0) (sh_lt hsa)
  refine v_aload_n C dX2_init_11 rfl ?_
  refine v_iconst 5 C dX2_init_12 (by decide) ?_
  refine v_newIA 5 n1 ((sh ++ [Sum.inr (0, 5)]) ++ [Sum.inr (0, 5)]) (by rw [List.length_append, hl0]; exact h1) rfl hB1 C ac_int (by decide) (by decide) (Nat.le_of_ble_eq_true rfl) (Nat.le_of_ble_eq_true rfl) (Nat.le_of_ble_eq_true rfl) dX2_init_13 ?_
  have hsa : ((sh ++ [Sum.inr (0, 5)]) ++ [Sum.inr (0, 5)])[a]? = some (.inl 2) := sh_app hsa
  have hl1 : (sh ++ [Sum.inr (0, 5)]).length = n1 := by rw [List.length_append, hl0]; exact h1
  refine v_putFR C fl_RX2_15 rfl rfl rfl rfl rfl hsa dX2_init_15 ?_
  exact v_vret C dX2_init_18 m_ret_rf

set_option maxHeartbeats 4000000 in
set_option maxRecDepth 100000 in
theorem c_X3_init {lnc : Launch} {E : En} {sh : List Sh} {I : IM} {J : JM} {R : RM} {a n0 n1 n2 : Nat} (hsa : sh[a]? = some (.inl 3)) (hB0 : Blank sh I J R) (h0 : sh.length = n0) (h1 : n0 + 1 = n1) (h2 : n1 + 1 = n2) : Ct lnc E yX3_init cX3_init 1 none 1 20 [.ref a] sh I J R 3 60 (m_ret none (sh ++ [.inr (0, 20)] ++ [.inr (0, 20)] ++ [.inr (0, 20)]) I J (ru (ru (ru R a 0 (some n0)) a 1 (some n1)) a 2 (some n2))) := by
  refine Ct.of (lv := [some (.ref a)]) (by decide) (Nat.le_of_ble_eq_true rfl) rfl (fun X hX C => ?_)
  refine v_aload_n C dX3_init_0 rfl ?_
  refine v_objInit C lk_RX3_3 obj_inst obj_code rfl (Nat.le_of_ble_eq_true rfl) (Nat.le_of_ble_eq_true rfl) dX3_init_1 ?_
  refine v_aload_n C dX3_init_4 rfl ?_
  refine v_bipush 20 C dX3_init_5 (by decide) ?_
  refine v_newIA 20 n0 (sh ++ [Sum.inr (0, 20)]) h0 rfl hB0 C ac_int (by decide) (by decide) (Nat.le_of_ble_eq_true rfl) (Nat.le_of_ble_eq_true rfl) (Nat.le_of_ble_eq_true rfl) dX3_init_7 ?_
  have hsa : (sh ++ [Sum.inr (0, 20)])[a]? = some (.inl 3) := sh_app hsa
  have hl0 : sh.length = n0 := h0
  refine v_putFR C fl_RX3_11 rfl rfl rfl rfl rfl hsa dX3_init_9 ?_
  have hB1 := (hB0.grow (sh2 := (sh ++ [Sum.inr (0, 20)])) (by simp only [List.length_append]; omega)).ru (a := a) (k := 0) (x := some n0) (sh_lt hsa)
  refine v_aload_n C dX3_init_12 rfl ?_
  refine v_bipush 20 C dX3_init_13 (by decide) ?_
  refine v_newIA 20 n1 ((sh ++ [Sum.inr (0, 20)]) ++ [Sum.inr (0, 20)]) (by rw [List.length_append, hl0]; exact h1) rfl hB1 C ac_int (by decide) (by decide) (Nat.le_of_ble_eq_true rfl) (Nat.le_of_ble_eq_true rfl) (Nat.le_of_ble_eq_true rfl) dX3_init_15 ?_
  have hsa : ((sh ++ [Sum.inr (0, 20)]) ++ [Sum.inr (0, 20)])[a]? = some (.inl 3) := sh_app hsa
  have hl1 : (sh ++ [Sum.inr (0, 20)]).length = n1 := by rw [List.length_append, hl0]; exact h1
  refine v_putFR C fl_RX3_15 rfl rfl rfl rfl rfl hsa dX3_init_17 ?_
  have hB2 := (hB1.grow (sh2 := ((sh ++ [Sum.inr (0, 20)]) ++ [Sum.inr (0, 20)])) (by simp only [List.length_append]; omega)).ru (a := a) (k := 1) (x := some n1) (sh_lt hsa)
  refine v_aload_n C dX3_init_20 rfl ?_
  refine v_bipush 20 C dX3_init_21 (by decide) ?_
  refine v_newIA 20 n2 (((sh ++ [Sum.inr (0, 20)]) ++ [Sum.inr (0, 20)]) ++ [Sum.inr (0, 20)]) (by rw [List.length_append, hl1]; exact h2) rfl hB2 C ac_int (by decide) (by decide) (Nat.le_of_ble_eq_true rfl) (Nat.le_of_ble_eq_true rfl) (Nat.le_of_ble_eq_true rfl) dX3_init_23 ?_
  have hsa : (((sh ++ [Sum.inr (0, 20)]) ++ [Sum.inr (0, 20)]) ++ [Sum.inr (0, 20)])[a]? = some (.inl 3) := sh_app hsa
  have hl2 : ((sh ++ [Sum.inr (0, 20)]) ++ [Sum.inr (0, 20)]).length = n2 := by rw [List.length_append, hl1]; exact h2
  refine v_putFR C fl_RX3_18 rfl rfl rfl rfl rfl hsa dX3_init_25 ?_
  exact v_vret C dX3_init_28 m_ret_rf

set_option maxHeartbeats 4000000 in
set_option maxRecDepth 100000 in
theorem c_X9_init {lnc : Launch} {E : En} {sh : List Sh} {I : IM} {J : JM} {R : RM} {a n0 n1 n2 n3 n4 : Nat} (hsa : sh[a]? = some (.inl 9)) (hB0 : Blank sh I J R) (h0 : sh.length = n0) (h1 : n0 + 1 = n1) (h2 : n1 + 1 = n2) (h3 : n2 + 1 = n3) (h4 : n3 + 1 = n4) : Ct lnc E yX9_init cX9_init 1 none 1 20 [.ref a] sh I J R 5 232 (m_ret none (sh ++ [.inr (0, 200)] ++ [.inr (0, 8)] ++ [.inr (0, 8)] ++ [.inr (0, 8)] ++ [.inr (0, 8)]) I J (ru (ru (ru (ru (ru R a 0 (some n0)) a 1 (some n1)) a 2 (some n2)) a 3 (some n3)) a 4 (some n4))) := by
  refine Ct.of (lv := [some (.ref a)]) (by decide) (Nat.le_of_ble_eq_true rfl) rfl (fun X hX C => ?_)
  refine v_aload_n C dX9_init_0 rfl ?_
  refine v_objInit C lk_RX9_3 obj_inst obj_code rfl (Nat.le_of_ble_eq_true rfl) (Nat.le_of_ble_eq_true rfl) dX9_init_1 ?_
  refine v_aload_n C dX9_init_4 rfl ?_
  refine v_sipush 200 C dX9_init_5 (by decide) ?_
  refine v_newIA 200 n0 (sh ++ [Sum.inr (0, 200)]) h0 rfl hB0 C ac_int (by decide) (by decide) (Nat.le_of_ble_eq_true rfl) (Nat.le_of_ble_eq_true rfl) (Nat.le_of_ble_eq_true rfl) dX9_init_8 ?_
  have hsa : (sh ++ [Sum.inr (0, 200)])[a]? = some (.inl 9) := sh_app hsa
  have hl0 : sh.length = n0 := h0
  refine v_putFR C fl_RX9_11 rfl rfl rfl rfl rfl hsa dX9_init_10 ?_
  have hB1 := (hB0.grow (sh2 := (sh ++ [Sum.inr (0, 200)])) (by simp only [List.length_append]; omega)).ru (a := a) (k := 0) (x := some n0) (sh_lt hsa)
  refine v_aload_n C dX9_init_13 rfl ?_
  refine v_bipush 8 C dX9_init_14 (by decide) ?_
  refine v_newIA 8 n1 ((sh ++ [Sum.inr (0, 200)]) ++ [Sum.inr (0, 8)]) (by rw [List.length_append, hl0]; exact h1) rfl hB1 C ac_int (by decide) (by decide) (Nat.le_of_ble_eq_true rfl) (Nat.le_of_ble_eq_true rfl) (Nat.le_of_ble_eq_true rfl) dX9_init_16 ?_
  have hsa : ((sh ++ [Sum.inr (0, 200)]) ++ [Sum.inr (0, 8)])[a]? = some (.inl 9) := sh_app hsa
  have hl1 : (sh ++ [Sum.inr (0, 200)]).length = n1 := by rw [List.length_append, hl0]; exact h1
  refine v_putFR C fl_RX9_15 rfl rfl rfl rfl rfl hsa dX9_init_18 ?_
  have hB2 := (hB1.grow (sh2 := ((sh ++ [Sum.inr (0, 200)]) ++ [Sum.inr (0, 8)])) (by simp only [List.length_append]; omega)).ru (a := a) (k := 1) (x := some n1) (sh_lt hsa)
  refine v_aload_n C dX9_init_21 rfl ?_
  refine v_bipush 8 C dX9_init_22 (by decide) ?_
  refine v_newIA 8 n2 (((sh ++ [Sum.inr (0, 200)]) ++ [Sum.inr (0, 8)]) ++ [Sum.inr (0, 8)]) (by rw [List.length_append, hl1]; exact h2) rfl hB2 C ac_int (by decide) (by decide) (Nat.le_of_ble_eq_true rfl) (Nat.le_of_ble_eq_true rfl) (Nat.le_of_ble_eq_true rfl) dX9_init_24 ?_
  have hsa : (((sh ++ [Sum.inr (0, 200)]) ++ [Sum.inr (0, 8)]) ++ [Sum.inr (0, 8)])[a]? = some (.inl 9) := sh_app hsa
  have hl2 : ((sh ++ [Sum.inr (0, 200)]) ++ [Sum.inr (0, 8)]).length = n2 := by rw [List.length_append, hl1]; exact h2
  refine v_putFR C fl_RX9_18 rfl rfl rfl rfl rfl hsa dX9_init_26 ?_
  have hB3 := (hB2.grow (sh2 := (((sh ++ [Sum.inr (0, 200)]) ++ [Sum.inr (0, 8)]) ++ [Sum.inr (0, 8)])) (by simp only [List.length_append]; omega)).ru (a := a) (k := 2) (x := some n2) (sh_lt hsa)
  refine v_aload_n C dX9_init_29 rfl ?_
  refine v_bipush 8 C dX9_init_30 (by decide) ?_
  refine v_newIA 8 n3 ((((sh ++ [Sum.inr (0, 200)]) ++ [Sum.inr (0, 8)]) ++ [Sum.inr (0, 8)]) ++ [Sum.inr (0, 8)]) (by rw [List.length_append, hl2]; exact h3) rfl hB3 C ac_int (by decide) (by decide) (Nat.le_of_ble_eq_true rfl) (Nat.le_of_ble_eq_true rfl) (Nat.le_of_ble_eq_true rfl) dX9_init_32 ?_
  have hsa : ((((sh ++ [Sum.inr (0, 200)]) ++ [Sum.inr (0, 8)]) ++ [Sum.inr (0, 8)]) ++ [Sum.inr (0, 8)])[a]? = some (.inl 9) := sh_app hsa
  have hl3 : (((sh ++ [Sum.inr (0, 200)]) ++ [Sum.inr (0, 8)]) ++ [Sum.inr (0, 8)]).length = n3 := by rw [List.length_append, hl2]; exact h3
  refine v_putFR C fl_RX9_21 rfl rfl rfl rfl rfl hsa dX9_init_34 ?_
  have hB4 := (hB3.grow (sh2 := ((((sh ++ [Sum.inr (0, 200)]) ++ [Sum.inr (0, 8)]) ++ [Sum.inr (0, 8)]) ++ [Sum.inr (0, 8)])) (by simp only [List.length_append]; omega)).ru (a := a) (k := 3) (x := some n3) (sh_lt hsa)
  refine v_aload_n C dX9_init_37 rfl ?_
  refine v_bipush 8 C dX9_init_38 (by decide) ?_
  refine v_newIA 8 n4 (((((sh ++ [Sum.inr (0, 200)]) ++ [Sum.inr (0, 8)]) ++ [Sum.inr (0, 8)]) ++ [Sum.inr (0, 8)]) ++ [Sum.inr (0, 8)]) (by rw [List.length_append, hl3]; exact h4) rfl hB4 C ac_int (by decide) (by decide) (Nat.le_of_ble_eq_true rfl) (Nat.le_of_ble_eq_true rfl) (Nat.le_of_ble_eq_true rfl) dX9_init_40 ?_
  have hsa : (((((sh ++ [Sum.inr (0, 200)]) ++ [Sum.inr (0, 8)]) ++ [Sum.inr (0, 8)]) ++ [Sum.inr (0, 8)]) ++ [Sum.inr (0, 8)])[a]? = some (.inl 9) := sh_app hsa
  have hl4 : ((((sh ++ [Sum.inr (0, 200)]) ++ [Sum.inr (0, 8)]) ++ [Sum.inr (0, 8)]) ++ [Sum.inr (0, 8)]).length = n4 := by rw [List.length_append, hl3]; exact h4
  refine v_putFR C fl_RX9_24 rfl rfl rfl rfl rfl hsa dX9_init_42 ?_
  exact v_vret C dX9_init_45 m_ret_rf

set_option maxHeartbeats 4000000 in
set_option maxRecDepth 100000 in
theorem c_X1_init {lnc : Launch} {E : En} {sh : List Sh} {I : IM} {J : JM} {R : RM} {a n0 n1 : Nat} (hsa : sh[a]? = some (.inl 1)) (hB0 : Blank sh I J R) (h0 : sh.length = n0) (h1 : n0 + 1 = n1) : Ct lnc E yX1_init cX1_init 1 none 1 20 [.ref a] sh I J R 2 16 (m_ret none (sh ++ [.inr (0, 8)] ++ [.inr (0, 8)]) I J (ru (ru R a 0 (some n0)) a 1 (some n1))) := by
  refine Ct.of (lv := [some (.ref a)]) (by decide) (Nat.le_of_ble_eq_true rfl) rfl (fun X hX C => ?_)
  refine v_aload_n C dX1_init_0 rfl ?_
  refine v_objInit C lk_RX1_3 obj_inst obj_code rfl (Nat.le_of_ble_eq_true rfl) (Nat.le_of_ble_eq_true rfl) dX1_init_1 ?_
  refine v_aload_n C dX1_init_4 rfl ?_
  refine v_bipush 8 C dX1_init_5 (by decide) ?_
  refine v_newIA 8 n0 (sh ++ [Sum.inr (0, 8)]) h0 rfl hB0 C ac_int (by decide) (by decide) (Nat.le_of_ble_eq_true rfl) (Nat.le_of_ble_eq_true rfl) (Nat.le_of_ble_eq_true rfl) dX1_init_7 ?_
  have hsa : (sh ++ [Sum.inr (0, 8)])[a]? = some (.inl 1) := sh_app hsa
  have hl0 : sh.length = n0 := h0
  refine v_putFR C fl_RX1_9 rfl rfl rfl rfl rfl hsa dX1_init_9 ?_
  have hB1 := (hB0.grow (sh2 := (sh ++ [Sum.inr (0, 8)])) (by simp only [List.length_append]; omega)).ru (a := a) (k := 0) (x := some n0) (sh_lt hsa)
  refine v_aload_n C dX1_init_12 rfl ?_
  refine v_bipush 8 C dX1_init_13 (by decide) ?_
  refine v_newIA 8 n1 ((sh ++ [Sum.inr (0, 8)]) ++ [Sum.inr (0, 8)]) (by rw [List.length_append, hl0]; exact h1) rfl hB1 C ac_int (by decide) (by decide) (Nat.le_of_ble_eq_true rfl) (Nat.le_of_ble_eq_true rfl) (Nat.le_of_ble_eq_true rfl) dX1_init_15 ?_
  have hsa : ((sh ++ [Sum.inr (0, 8)]) ++ [Sum.inr (0, 8)])[a]? = some (.inl 1) := sh_app hsa
  have hl1 : (sh ++ [Sum.inr (0, 8)]).length = n1 := by rw [List.length_append, hl0]; exact h1
  refine v_putFR C fl_RX1_15 rfl rfl rfl rfl rfl hsa dX1_init_17 ?_
  exact v_vret C dX1_init_20 m_ret_rf

set_option maxHeartbeats 4000000 in
set_option maxRecDepth 100000 in
theorem c_X0_init {lnc : Launch} {E : En} {sh : List Sh} {I : IM} {J : JM} {R : RM} {a n0 : Nat} (hsa : sh[a]? = some (.inl 0)) (hB0 : Blank sh I J R) (h0 : sh.length = n0) : Ct lnc E yX0_init cX0_init 1 none 1 20 [.ref a] sh I J R 1 20 (m_ret none (sh ++ [.inr (7, 20)]) I J (ru R a 0 (some n0))) := by
  refine Ct.of (lv := [some (.ref a)]) (by decide) (Nat.le_of_ble_eq_true rfl) rfl (fun X hX C => ?_)
  refine v_aload_n C dX0_init_0 rfl ?_
  refine v_objInit C lk_RX0_1 obj_inst obj_code rfl (Nat.le_of_ble_eq_true rfl) (Nat.le_of_ble_eq_true rfl) dX0_init_1 ?_
  refine v_aload_n C dX0_init_4 rfl ?_
  refine v_bipush 20 C dX0_init_5 (by decide) ?_
  refine v_anewA (t := 7) 20 n0 (sh ++ [Sum.inr (7, 20)]) h0 rfl hB0 C ⟨rfl, by decide, by decide⟩ cl_RX0_9 ao_RX6 (by decide) (by decide) (Nat.le_of_ble_eq_true rfl) (Nat.le_of_ble_eq_true rfl) (Nat.le_of_ble_eq_true rfl) dX0_init_7 ?_
  have hsa : (sh ++ [Sum.inr (7, 20)])[a]? = some (.inl 0) := sh_app hsa
  have hl0 : sh.length = n0 := h0
  refine v_putFR C fl_RX0_11 rfl rfl rfl rfl rfl hsa dX0_init_10 ?_
  exact v_vret C dX0_init_13 m_ret_rf

set_option maxHeartbeats 4000000 in
set_option maxRecDepth 100000 in
theorem c_X8_init {lnc : Launch} {E : En} {sh : List Sh} {I : IM} {J : JM} {R : RM} {a n0 n1 : Nat} (hsa : sh[a]? = some (.inl 8)) (hB0 : Blank sh I J R) (h0 : sh.length = n0) (h1 : n0 + 1 = n1) : Ct lnc E yX8_init cX8_init 1 none 1 20 [.ref a] sh I J R 2 10 (m_ret none (sh ++ [.inr (0, 5)] ++ [.inr (0, 5)]) I J (ru (ru R a 2 (some n0)) a 3 (some n1))) := by
  refine Ct.of (lv := [some (.ref a)]) (by decide) (Nat.le_of_ble_eq_true rfl) rfl (fun X hX C => ?_)
  refine v_aload_n C dX8_init_0 rfl ?_
  refine v_objInit C lk_RX8_3 obj_inst obj_code rfl (Nat.le_of_ble_eq_true rfl) (Nat.le_of_ble_eq_true rfl) dX8_init_1 ?_
  refine v_aload_n C dX8_init_4 rfl ?_
  refine v_iconst 5 C dX8_init_5 (by decide) ?_
  refine v_newIA 5 n0 (sh ++ [Sum.inr (0, 5)]) h0 rfl hB0 C ac_int (by decide) (by decide) (Nat.le_of_ble_eq_true rfl) (Nat.le_of_ble_eq_true rfl) (Nat.le_of_ble_eq_true rfl) dX8_init_6 ?_
  have hsa : (sh ++ [Sum.inr (0, 5)])[a]? = some (.inl 8) := sh_app hsa
  have hl0 : sh.length = n0 := h0
  refine v_putFR C fl_RX8_9 rfl rfl rfl rfl rfl hsa dX8_init_8 ?_
  have hB1 := (hB0.grow (sh2 := (sh ++ [Sum.inr (0, 5)])) (by simp only [List.length_append]; omega)).ru (a := a) (k := 2) (x := some n0) (sh_lt hsa)
  refine v_aload_n C dX8_init_11 rfl ?_
  refine v_iconst 5 C dX8_init_12 (by decide) ?_
  refine v_newIA 5 n1 ((sh ++ [Sum.inr (0, 5)]) ++ [Sum.inr (0, 5)]) (by rw [List.length_append, hl0]; exact h1) rfl hB1 C ac_int (by decide) (by decide) (Nat.le_of_ble_eq_true rfl) (Nat.le_of_ble_eq_true rfl) (Nat.le_of_ble_eq_true rfl) dX8_init_13 ?_
  have hsa : ((sh ++ [Sum.inr (0, 5)]) ++ [Sum.inr (0, 5)])[a]? = some (.inl 8) := sh_app hsa
  have hl1 : (sh ++ [Sum.inr (0, 5)]).length = n1 := by rw [List.length_append, hl0]; exact h1
  refine v_putFR C fl_RX8_15 rfl rfl rfl rfl rfl hsa dX8_init_15 ?_
  exact v_vret C dX8_init_18 m_ret_rf

set_option maxHeartbeats 4000000 in
set_option maxRecDepth 100000 in
theorem c_X5_init {lnc : Launch} {E : En} {sh : List Sh} {I : IM} {J : JM} {R : RM} {a n0 n1 n2 n3 : Nat} (hsa : sh[a]? = some (.inl 5)) (hB0 : Blank sh I J R) (h0 : sh.length = n0) (h1 : n0 + 1 = n1) (h2 : n1 + 1 = n2) (h3 : n2 + 1 = n3) : Ct lnc E yX5_init cX5_init 1 none 1 20 [.ref a] sh I J R 4 135 (m_ret none (sh ++ [.inr (0, 50)] ++ [.inr (0, 25)] ++ [.inr (0, 50)] ++ [.inr (0, 10)]) I J (ru (ru (ru (ru R a 0 (some n0)) a 1 (some n1)) a 2 (some n2)) a 3 (some n3))) := by
  refine Ct.of (lv := [some (.ref a)]) (by decide) (Nat.le_of_ble_eq_true rfl) rfl (fun X hX C => ?_)
  refine v_aload_n C dX5_init_0 rfl ?_
  refine v_objInit C lk_RX5_3 obj_inst obj_code rfl (Nat.le_of_ble_eq_true rfl) (Nat.le_of_ble_eq_true rfl) dX5_init_1 ?_
  refine v_aload_n C dX5_init_4 rfl ?_
  refine v_bipush 50 C dX5_init_5 (by decide) ?_
  refine v_newIA 50 n0 (sh ++ [Sum.inr (0, 50)]) h0 rfl hB0 C ac_int (by decide) (by decide) (Nat.le_of_ble_eq_true rfl) (Nat.le_of_ble_eq_true rfl) (Nat.le_of_ble_eq_true rfl) dX5_init_7 ?_
  have hsa : (sh ++ [Sum.inr (0, 50)])[a]? = some (.inl 5) := sh_app hsa
  have hl0 : sh.length = n0 := h0
  refine v_putFR C fl_RX5_9 rfl rfl rfl rfl rfl hsa dX5_init_9 ?_
  have hB1 := (hB0.grow (sh2 := (sh ++ [Sum.inr (0, 50)])) (by simp only [List.length_append]; omega)).ru (a := a) (k := 0) (x := some n0) (sh_lt hsa)
  refine v_aload_n C dX5_init_12 rfl ?_
  refine v_bipush 25 C dX5_init_13 (by decide) ?_
  refine v_newIA 25 n1 ((sh ++ [Sum.inr (0, 50)]) ++ [Sum.inr (0, 25)]) (by rw [List.length_append, hl0]; exact h1) rfl hB1 C ac_int (by decide) (by decide) (Nat.le_of_ble_eq_true rfl) (Nat.le_of_ble_eq_true rfl) (Nat.le_of_ble_eq_true rfl) dX5_init_15 ?_
  have hsa : ((sh ++ [Sum.inr (0, 50)]) ++ [Sum.inr (0, 25)])[a]? = some (.inl 5) := sh_app hsa
  have hl1 : (sh ++ [Sum.inr (0, 50)]).length = n1 := by rw [List.length_append, hl0]; exact h1
  refine v_putFR C fl_RX5_15 rfl rfl rfl rfl rfl hsa dX5_init_17 ?_
  have hB2 := (hB1.grow (sh2 := ((sh ++ [Sum.inr (0, 50)]) ++ [Sum.inr (0, 25)])) (by simp only [List.length_append]; omega)).ru (a := a) (k := 1) (x := some n1) (sh_lt hsa)
  refine v_aload_n C dX5_init_20 rfl ?_
  refine v_bipush 50 C dX5_init_21 (by decide) ?_
  refine v_newIA 50 n2 (((sh ++ [Sum.inr (0, 50)]) ++ [Sum.inr (0, 25)]) ++ [Sum.inr (0, 50)]) (by rw [List.length_append, hl1]; exact h2) rfl hB2 C ac_int (by decide) (by decide) (Nat.le_of_ble_eq_true rfl) (Nat.le_of_ble_eq_true rfl) (Nat.le_of_ble_eq_true rfl) dX5_init_23 ?_
  have hsa : (((sh ++ [Sum.inr (0, 50)]) ++ [Sum.inr (0, 25)]) ++ [Sum.inr (0, 50)])[a]? = some (.inl 5) := sh_app hsa
  have hl2 : ((sh ++ [Sum.inr (0, 50)]) ++ [Sum.inr (0, 25)]).length = n2 := by rw [List.length_append, hl1]; exact h2
  refine v_putFR C fl_RX5_18 rfl rfl rfl rfl rfl hsa dX5_init_25 ?_
  have hB3 := (hB2.grow (sh2 := (((sh ++ [Sum.inr (0, 50)]) ++ [Sum.inr (0, 25)]) ++ [Sum.inr (0, 50)])) (by simp only [List.length_append]; omega)).ru (a := a) (k := 2) (x := some n2) (sh_lt hsa)
  refine v_aload_n C dX5_init_28 rfl ?_
  refine v_bipush 10 C dX5_init_29 (by decide) ?_
  refine v_newIA 10 n3 ((((sh ++ [Sum.inr (0, 50)]) ++ [Sum.inr (0, 25)]) ++ [Sum.inr (0, 50)]) ++ [Sum.inr (0, 10)]) (by rw [List.length_append, hl2]; exact h3) rfl hB3 C ac_int (by decide) (by decide) (Nat.le_of_ble_eq_true rfl) (Nat.le_of_ble_eq_true rfl) (Nat.le_of_ble_eq_true rfl) dX5_init_31 ?_
  have hsa : ((((sh ++ [Sum.inr (0, 50)]) ++ [Sum.inr (0, 25)]) ++ [Sum.inr (0, 50)]) ++ [Sum.inr (0, 10)])[a]? = some (.inl 5) := sh_app hsa
  have hl3 : (((sh ++ [Sum.inr (0, 50)]) ++ [Sum.inr (0, 25)]) ++ [Sum.inr (0, 50)]).length = n3 := by rw [List.length_append, hl2]; exact h3
  refine v_putFR C fl_RX5_21 rfl rfl rfl rfl rfl hsa dX5_init_33 ?_
  exact v_vret C dX5_init_36 m_ret_rf

set_option maxHeartbeats 4000000 in
set_option maxRecDepth 100000 in
theorem c_X7_init {lnc : Launch} {E : En} {sh : List Sh} {I : IM} {J : JM} {R : RM} {a : Nat} (hsa : sh[a]? = some (.inl 7)) : Ct lnc E yX7_init cX7_init 1 none 1 20 [.ref a] sh I J R 0 0 (m_ret none sh (iu (iu I a 0 (-1)) a 4 (-1)) J R) := by
  refine Ct.of (lv := [some (.ref a)]) (by decide) (Nat.le_of_ble_eq_true rfl) rfl (fun X hX C => ?_)
  refine v_aload_n C dX7_init_0 rfl ?_
  refine v_objInit C lk_RX7_3 obj_inst obj_code rfl (Nat.le_of_ble_eq_true rfl) (Nat.le_of_ble_eq_true rfl) dX7_init_1 ?_
  refine v_aload_n C dX7_init_4 rfl ?_
  refine v_iconst (-1) C dX7_init_5 (by decide) ?_
  refine v_putI C fl_RX7_9 rfl hsa dX7_init_6 ?_
  refine v_aload_n C dX7_init_9 rfl ?_
  refine v_iconst (-1) C dX7_init_10 (by decide) ?_
  refine v_putI C fl_RX7_15 rfl hsa dX7_init_11 ?_
  exact v_vret C dX7_init_14 m_ret_rf

set_option maxHeartbeats 4000000 in
set_option maxRecDepth 100000 in
theorem c_X4_init {lnc : Launch} {E : En} {sh : List Sh} {I : IM} {J : JM} {R : RM} {a : Nat} (hsa : sh[a]? = some (.inl 4)) : Ct lnc E yX4_init cX4_init 1 none 1 20 [.ref a] sh I J R 0 0 (m_ret none sh I J R) := by
  refine Ct.of (lv := [some (.ref a)]) (by decide) (Nat.le_of_ble_eq_true rfl) rfl (fun X hX C => ?_)
  refine v_aload_n C dX4_init_0 rfl ?_
  refine v_objInit C lk_RX4_3 obj_inst obj_code rfl (Nat.le_of_ble_eq_true rfl) (Nat.le_of_ble_eq_true rfl) dX4_init_1 ?_
  exact v_vret C dX4_init_4 m_ret_rf

def zI : IM := fun _ _ => 0
def zJ : JM := fun _ _ => 0
def zR : RM := fun _ _ => none

def initI : IM := (fillF (iu (iu (iu (iu (iu (iu (iu (iu (iu (iu (iu (iu zI 18 0 (-1)) 18 4 (-1)) 19 0 (-1)) 19 4 (-1)) 20 0 (-1)) 20 4 (-1)) 21 0 (-1)) 21 4 (-1)) 22 0 (-1)) 22 4 (-1)) 23 0 (-1)) 23 4 (-1)) 37 4 60)
def initR : RM := (ru (ru (ru (ru (ru (ru (ru (ru (ru (ru (ru (ru (ru (ru (ru (ru (ru (ru (ru (ru (ru (ru (ru (ru (ru (ru (ru (ru (ru (ru (ru (ru (ru (ru (ru (ru (ru (ru (ru (ru (ru (ru (ru (ru (ru (ru zR 1 0 (some 2)) 1 1 (some 3)) 0 0 (some 1)) 4 0 (some 5)) 4 1 (some 6)) 4 2 (some 7)) 0 1 (some 4)) 8 0 (some 9)) 8 1 (some 10)) 8 2 (some 11)) 8 3 (some 12)) 8 4 (some 13)) 0 2 (some 8)) 14 0 (some 15)) 14 1 (some 16)) 0 3 (some 14)) 0 4 (some 17)) 17 0 (some 18)) 17 1 (some 19)) 17 2 (some 20)) 17 3 (some 21)) 17 4 (some 22)) 17 5 (some 23)) 0 5 (some 24)) 24 0 (some 25)) 24 1 (some 26)) 24 2 (some 27)) 24 3 (some 28)) 24 4 (some 29)) 0 6 (some 30)) 31 0 (some 32)) 30 0 (some 31)) 33 0 (some 34)) 30 1 (some 33)) 35 0 (some 36)) 30 2 (some 35)) 0 7 (some 37)) 0 8 (some 38)) 39 2 (some 40)) 39 3 (some 41)) 0 9 (some 39)) 42 0 (some 43)) 42 1 (some 44)) 42 2 (some 45)) 42 3 (some 46)) 0 10 (some 42))

set_option maxHeartbeats 4000000 in
set_option maxRecDepth 100000 in
theorem c_X10_init {lnc : Launch} {E : En} (hB : Blank (layL.take 1) zI zJ zR) : Ct lnc E yX10_init cX10_init 2 none 2 40 [.ref 0] (layL.take 1) zI zJ zR 46 1652 (m_ret none (layL.take 47) initI zJ initR) := by
  refine Ct.of (lv := [some (.ref 0), none]) (by decide) (Nat.le_of_ble_eq_true rfl) rfl (fun X hX C => ?_)
  refine v_aload_n C dX10_init_0 rfl ?_
  refine v_objInit C lk_RX10_1 obj_inst obj_code rfl (Nat.le_of_ble_eq_true rfl) (Nat.le_of_ble_eq_true rfl) dX10_init_1 ?_
  refine v_aload_n C dX10_init_4 rfl ?_
  refine v_newA (ci := 2) 1 (layL.take 2) rfl rfl hB C rfl cl_RX10_7 ins_RX2 ini_RX2 (Nat.le_of_ble_eq_true rfl) (Nat.le_of_ble_eq_true rfl) dX10_init_5 ?_
  have hB := hB.grow (sh2 := (layL.take 2)) (by decide)
  refine v_dupr C dX10_init_8 ?_
  refine v_callNIv C (c_X2_init (a := 1) (n0 := 2) (n1 := 3) rfl hB rfl rfl) mt_X2_init lk_RX10_9 rfl rfl rfl rfl rfl dX10_init_9 ?_
  refine v_eqS (show _ = (layL.take 4) from rfl) ?_
  have hB := (((hB.grow (sh2 := (layL.take 4)) (by decide)).ru (a := 1) (k := 0) (x := some 2) (by decide)).ru (a := 1) (k := 1) (x := some 3) (by decide))
  refine v_putFR C fl_RX10_10 rfl rfl rfl rfl rfl rfl dX10_init_12 ?_
  have hB := hB.ru (a := 0) (k := 0) (x := some 1) (by decide)
  refine v_aload_n C dX10_init_15 rfl ?_
  refine v_newA (ci := 3) 4 (layL.take 5) rfl rfl hB C rfl cl_RX10_16 ins_RX3 ini_RX3 (Nat.le_of_ble_eq_true rfl) (Nat.le_of_ble_eq_true rfl) dX10_init_16 ?_
  have hB := hB.grow (sh2 := (layL.take 5)) (by decide)
  refine v_dupr C dX10_init_19 ?_
  refine v_callNIv C (c_X3_init (a := 4) (n0 := 5) (n1 := 6) (n2 := 7) rfl hB rfl rfl rfl) mt_X3_init lk_RX10_18 rfl rfl rfl rfl rfl dX10_init_20 ?_
  refine v_eqS (show _ = (layL.take 8) from rfl) ?_
  have hB := ((((hB.grow (sh2 := (layL.take 8)) (by decide)).ru (a := 4) (k := 0) (x := some 5) (by decide)).ru (a := 4) (k := 1) (x := some 6) (by decide)).ru (a := 4) (k := 2) (x := some 7) (by decide))
  refine v_putFR C fl_RX10_19 rfl rfl rfl rfl rfl rfl dX10_init_23 ?_
  have hB := hB.ru (a := 0) (k := 1) (x := some 4) (by decide)
  refine v_aload_n C dX10_init_26 rfl ?_
  refine v_newA (ci := 9) 8 (layL.take 9) rfl rfl hB C rfl cl_RX10_23 ins_RX9 ini_RX9 (Nat.le_of_ble_eq_true rfl) (Nat.le_of_ble_eq_true rfl) dX10_init_27 ?_
  have hB := hB.grow (sh2 := (layL.take 9)) (by decide)
  refine v_dupr C dX10_init_30 ?_
  refine v_callNIv C (c_X9_init (a := 8) (n0 := 9) (n1 := 10) (n2 := 11) (n3 := 12) (n4 := 13) rfl hB rfl rfl rfl rfl rfl) mt_X9_init lk_RX10_25 rfl rfl rfl rfl rfl dX10_init_31 ?_
  refine v_eqS (show _ = (layL.take 14) from rfl) ?_
  have hB := ((((((hB.grow (sh2 := (layL.take 14)) (by decide)).ru (a := 8) (k := 0) (x := some 9) (by decide)).ru (a := 8) (k := 1) (x := some 10) (by decide)).ru (a := 8) (k := 2) (x := some 11) (by decide)).ru (a := 8) (k := 3) (x := some 12) (by decide)).ru (a := 8) (k := 4) (x := some 13) (by decide))
  refine v_putFR C fl_RX10_26 rfl rfl rfl rfl rfl rfl dX10_init_34 ?_
  have hB := hB.ru (a := 0) (k := 2) (x := some 8) (by decide)
  refine v_aload_n C dX10_init_37 rfl ?_
  refine v_newA (ci := 1) 14 (layL.take 15) rfl rfl hB C rfl cl_RX10_30 ins_RX1 ini_RX1 (Nat.le_of_ble_eq_true rfl) (Nat.le_of_ble_eq_true rfl) dX10_init_38 ?_
  have hB := hB.grow (sh2 := (layL.take 15)) (by decide)
  refine v_dupr C dX10_init_41 ?_
  refine v_callNIv C (c_X1_init (a := 14) (n0 := 15) (n1 := 16) rfl hB rfl rfl) mt_X1_init lk_RX10_32 rfl rfl rfl rfl rfl dX10_init_42 ?_
  refine v_eqS (show _ = (layL.take 17) from rfl) ?_
  have hB := (((hB.grow (sh2 := (layL.take 17)) (by decide)).ru (a := 14) (k := 0) (x := some 15) (by decide)).ru (a := 14) (k := 1) (x := some 16) (by decide))
  refine v_putFR C fl_RX10_33 rfl rfl rfl rfl rfl rfl dX10_init_45 ?_
  have hB := hB.ru (a := 0) (k := 3) (x := some 14) (by decide)
  refine v_aload_n C dX10_init_48 rfl ?_
  refine v_bipush 6 C dX10_init_49 (by decide) ?_
  refine v_anewA (t := 4) 6 17 (layL.take 18) rfl rfl hB C ⟨rfl, by decide, by decide⟩ cl_RX10_37 ao_RX7 (by decide) (by decide) (Nat.le_of_ble_eq_true rfl) (Nat.le_of_ble_eq_true rfl) (Nat.le_of_ble_eq_true rfl) dX10_init_51 ?_
  have hB := hB.grow (sh2 := (layL.take 18)) (by decide)
  refine v_putFR C fl_RX10_39 rfl rfl rfl rfl rfl rfl dX10_init_54 ?_
  have hB := hB.ru (a := 0) (k := 4) (x := some 17) (by decide)
  refine v_iconst 0 C dX10_init_57 (by decide) ?_
  refine v_istore_n C dX10_init_58 (Nat.le_of_ble_eq_true rfl) rfl ?_
  refine v_iload_n C dX10_init_59 rfl ?_
  refine v_bipush 6 C dX10_init_60 (by decide) ?_
  refine v_icmp_ge 84 C dX10_init_62 (by decide) (fun h62 => absurd h62 (by decide)) (fun _ => ?_)
  refine v_aload_n C dX10_init_65 rfl ?_
  refine v_getR 17 C fl_RX10_39 rfl rfl rfl dX10_init_66 ?_
  refine v_iload_n C dX10_init_69 rfl ?_
  refine v_newA (ci := 7) 18 (layL.take 19) rfl rfl hB C rfl cl_RX10_37 ins_RX7 ini_RX7 (Nat.le_of_ble_eq_true rfl) (Nat.le_of_ble_eq_true rfl) dX10_init_70 ?_
  have hB := hB.grow (sh2 := (layL.take 19)) (by decide)
  refine v_dupr C dX10_init_73 ?_
  refine v_callNIv C (c_X7_init (a := 18) rfl) mt_X7_init lk_RX10_43 rfl rfl rfl rfl rfl dX10_init_74 ?_
  have hB := (hB.iu (a := 18) (k := 0) (x := -1) (by decide)).iu (a := 18) (k := 4) (x := -1) (by decide)
  refine v_aastore 0 C rfl (q := _) (ci := 7) rfl ⟨rfl, by decide, by decide⟩ rfl (at_c rfl) dX10_init_77 ?_
  have hB := hB.ru (a := 17) (k := 0) (x := some 18) (by decide)
  refine v_iinc 1 C dX10_init_78 rfl (by decide) (Nat.le_of_ble_eq_true rfl) rfl ?_
  refine v_goto 59 C dX10_init_81 (by decide) ?_
  refine v_iload_n C dX10_init_59 rfl ?_
  refine v_bipush 6 C dX10_init_60 (by decide) ?_
  refine v_icmp_ge 84 C dX10_init_62 (by decide) (fun h62 => absurd h62 (by decide)) (fun _ => ?_)
  refine v_aload_n C dX10_init_65 rfl ?_
  refine v_getR 17 C fl_RX10_39 rfl rfl rfl dX10_init_66 ?_
  refine v_iload_n C dX10_init_69 rfl ?_
  refine v_newA (ci := 7) 19 (layL.take 20) rfl rfl hB C rfl cl_RX10_37 ins_RX7 ini_RX7 (Nat.le_of_ble_eq_true rfl) (Nat.le_of_ble_eq_true rfl) dX10_init_70 ?_
  have hB := hB.grow (sh2 := (layL.take 20)) (by decide)
  refine v_dupr C dX10_init_73 ?_
  refine v_callNIv C (c_X7_init (a := 19) rfl) mt_X7_init lk_RX10_43 rfl rfl rfl rfl rfl dX10_init_74 ?_
  have hB := (hB.iu (a := 19) (k := 0) (x := -1) (by decide)).iu (a := 19) (k := 4) (x := -1) (by decide)
  refine v_aastore 1 C rfl (q := _) (ci := 7) rfl ⟨rfl, by decide, by decide⟩ rfl (at_c rfl) dX10_init_77 ?_
  have hB := hB.ru (a := 17) (k := 1) (x := some 19) (by decide)
  refine v_iinc 2 C dX10_init_78 rfl (by decide) (Nat.le_of_ble_eq_true rfl) rfl ?_
  refine v_goto 59 C dX10_init_81 (by decide) ?_
  refine v_iload_n C dX10_init_59 rfl ?_
  refine v_bipush 6 C dX10_init_60 (by decide) ?_
  refine v_icmp_ge 84 C dX10_init_62 (by decide) (fun h62 => absurd h62 (by decide)) (fun _ => ?_)
  refine v_aload_n C dX10_init_65 rfl ?_
  refine v_getR 17 C fl_RX10_39 rfl rfl rfl dX10_init_66 ?_
  refine v_iload_n C dX10_init_69 rfl ?_
  refine v_newA (ci := 7) 20 (layL.take 21) rfl rfl hB C rfl cl_RX10_37 ins_RX7 ini_RX7 (Nat.le_of_ble_eq_true rfl) (Nat.le_of_ble_eq_true rfl) dX10_init_70 ?_
  have hB := hB.grow (sh2 := (layL.take 21)) (by decide)
  refine v_dupr C dX10_init_73 ?_
  refine v_callNIv C (c_X7_init (a := 20) rfl) mt_X7_init lk_RX10_43 rfl rfl rfl rfl rfl dX10_init_74 ?_
  have hB := (hB.iu (a := 20) (k := 0) (x := -1) (by decide)).iu (a := 20) (k := 4) (x := -1) (by decide)
  refine v_aastore 2 C rfl (q := _) (ci := 7) rfl ⟨rfl, by decide, by decide⟩ rfl (at_c rfl) dX10_init_77 ?_
  have hB := hB.ru (a := 17) (k := 2) (x := some 20) (by decide)
  refine v_iinc 3 C dX10_init_78 rfl (by decide) (Nat.le_of_ble_eq_true rfl) rfl ?_
  refine v_goto 59 C dX10_init_81 (by decide) ?_
  refine v_iload_n C dX10_init_59 rfl ?_
  refine v_bipush 6 C dX10_init_60 (by decide) ?_
  refine v_icmp_ge 84 C dX10_init_62 (by decide) (fun h62 => absurd h62 (by decide)) (fun _ => ?_)
  refine v_aload_n C dX10_init_65 rfl ?_
  refine v_getR 17 C fl_RX10_39 rfl rfl rfl dX10_init_66 ?_
  refine v_iload_n C dX10_init_69 rfl ?_
  refine v_newA (ci := 7) 21 (layL.take 22) rfl rfl hB C rfl cl_RX10_37 ins_RX7 ini_RX7 (Nat.le_of_ble_eq_true rfl) (Nat.le_of_ble_eq_true rfl) dX10_init_70 ?_
  have hB := hB.grow (sh2 := (layL.take 22)) (by decide)
  refine v_dupr C dX10_init_73 ?_
  refine v_callNIv C (c_X7_init (a := 21) rfl) mt_X7_init lk_RX10_43 rfl rfl rfl rfl rfl dX10_init_74 ?_
  have hB := (hB.iu (a := 21) (k := 0) (x := -1) (by decide)).iu (a := 21) (k := 4) (x := -1) (by decide)
  refine v_aastore 3 C rfl (q := _) (ci := 7) rfl ⟨rfl, by decide, by decide⟩ rfl (at_c rfl) dX10_init_77 ?_
  have hB := hB.ru (a := 17) (k := 3) (x := some 21) (by decide)
  refine v_iinc 4 C dX10_init_78 rfl (by decide) (Nat.le_of_ble_eq_true rfl) rfl ?_
  refine v_goto 59 C dX10_init_81 (by decide) ?_
  refine v_iload_n C dX10_init_59 rfl ?_
  refine v_bipush 6 C dX10_init_60 (by decide) ?_
  refine v_icmp_ge 84 C dX10_init_62 (by decide) (fun h62 => absurd h62 (by decide)) (fun _ => ?_)
  refine v_aload_n C dX10_init_65 rfl ?_
  refine v_getR 17 C fl_RX10_39 rfl rfl rfl dX10_init_66 ?_
  refine v_iload_n C dX10_init_69 rfl ?_
  refine v_newA (ci := 7) 22 (layL.take 23) rfl rfl hB C rfl cl_RX10_37 ins_RX7 ini_RX7 (Nat.le_of_ble_eq_true rfl) (Nat.le_of_ble_eq_true rfl) dX10_init_70 ?_
  have hB := hB.grow (sh2 := (layL.take 23)) (by decide)
  refine v_dupr C dX10_init_73 ?_
  refine v_callNIv C (c_X7_init (a := 22) rfl) mt_X7_init lk_RX10_43 rfl rfl rfl rfl rfl dX10_init_74 ?_
  have hB := (hB.iu (a := 22) (k := 0) (x := -1) (by decide)).iu (a := 22) (k := 4) (x := -1) (by decide)
  refine v_aastore 4 C rfl (q := _) (ci := 7) rfl ⟨rfl, by decide, by decide⟩ rfl (at_c rfl) dX10_init_77 ?_
  have hB := hB.ru (a := 17) (k := 4) (x := some 22) (by decide)
  refine v_iinc 5 C dX10_init_78 rfl (by decide) (Nat.le_of_ble_eq_true rfl) rfl ?_
  refine v_goto 59 C dX10_init_81 (by decide) ?_
  refine v_iload_n C dX10_init_59 rfl ?_
  refine v_bipush 6 C dX10_init_60 (by decide) ?_
  refine v_icmp_ge 84 C dX10_init_62 (by decide) (fun h62 => absurd h62 (by decide)) (fun _ => ?_)
  refine v_aload_n C dX10_init_65 rfl ?_
  refine v_getR 17 C fl_RX10_39 rfl rfl rfl dX10_init_66 ?_
  refine v_iload_n C dX10_init_69 rfl ?_
  refine v_newA (ci := 7) 23 (layL.take 24) rfl rfl hB C rfl cl_RX10_37 ins_RX7 ini_RX7 (Nat.le_of_ble_eq_true rfl) (Nat.le_of_ble_eq_true rfl) dX10_init_70 ?_
  have hB := hB.grow (sh2 := (layL.take 24)) (by decide)
  refine v_dupr C dX10_init_73 ?_
  refine v_callNIv C (c_X7_init (a := 23) rfl) mt_X7_init lk_RX10_43 rfl rfl rfl rfl rfl dX10_init_74 ?_
  have hB := (hB.iu (a := 23) (k := 0) (x := -1) (by decide)).iu (a := 23) (k := 4) (x := -1) (by decide)
  refine v_aastore 5 C rfl (q := _) (ci := 7) rfl ⟨rfl, by decide, by decide⟩ rfl (at_c rfl) dX10_init_77 ?_
  have hB := hB.ru (a := 17) (k := 5) (x := some 23) (by decide)
  refine v_iinc 6 C dX10_init_78 rfl (by decide) (Nat.le_of_ble_eq_true rfl) rfl ?_
  refine v_goto 59 C dX10_init_81 (by decide) ?_
  refine v_iload_n C dX10_init_59 rfl ?_
  refine v_bipush 6 C dX10_init_60 (by decide) ?_
  refine v_icmp_ge 84 C dX10_init_62 (by decide) (fun _ => ?_) (fun h62 => absurd h62 (by decide))
  refine v_aload_n C dX10_init_84 rfl ?_
  refine v_iconst 5 C dX10_init_85 (by decide) ?_
  refine v_anewA (t := 5) 5 24 (layL.take 25) rfl rfl hB C ⟨rfl, by decide, by decide⟩ cl_RX10_44 ao_RX4 (by decide) (by decide) (Nat.le_of_ble_eq_true rfl) (Nat.le_of_ble_eq_true rfl) (Nat.le_of_ble_eq_true rfl) dX10_init_86 ?_
  have hB := hB.grow (sh2 := (layL.take 25)) (by decide)
  refine v_putFR C fl_RX10_46 rfl rfl rfl rfl rfl rfl dX10_init_89 ?_
  have hB := hB.ru (a := 0) (k := 5) (x := some 24) (by decide)
  refine v_iconst 0 C dX10_init_92 (by decide) ?_
  refine v_istore_n C dX10_init_93 (Nat.le_of_ble_eq_true rfl) rfl ?_
  refine v_iload_n C dX10_init_94 rfl ?_
  refine v_iconst 5 C dX10_init_95 (by decide) ?_
  refine v_icmp_ge 118 C dX10_init_96 (by decide) (fun h96 => absurd h96 (by decide)) (fun _ => ?_)
  refine v_aload_n C dX10_init_99 rfl ?_
  refine v_getR 24 C fl_RX10_46 rfl rfl rfl dX10_init_100 ?_
  refine v_iload_n C dX10_init_103 rfl ?_
  refine v_newA (ci := 4) 25 (layL.take 26) rfl rfl hB C rfl cl_RX10_44 ins_RX4 ini_RX4 (Nat.le_of_ble_eq_true rfl) (Nat.le_of_ble_eq_true rfl) dX10_init_104 ?_
  have hB := hB.grow (sh2 := (layL.take 26)) (by decide)
  refine v_dupr C dX10_init_107 ?_
  refine v_callNIv C (c_X4_init (a := 25) rfl) mt_X4_init lk_RX10_50 rfl rfl rfl rfl rfl dX10_init_108 ?_
  refine v_aastore 0 C rfl (q := _) (ci := 4) rfl ⟨rfl, by decide, by decide⟩ rfl (at_c rfl) dX10_init_111 ?_
  have hB := hB.ru (a := 24) (k := 0) (x := some 25) (by decide)
  refine v_iinc 1 C dX10_init_112 rfl (by decide) (Nat.le_of_ble_eq_true rfl) rfl ?_
  refine v_goto 94 C dX10_init_115 (by decide) ?_
  refine v_iload_n C dX10_init_94 rfl ?_
  refine v_iconst 5 C dX10_init_95 (by decide) ?_
  refine v_icmp_ge 118 C dX10_init_96 (by decide) (fun h96 => absurd h96 (by decide)) (fun _ => ?_)
  refine v_aload_n C dX10_init_99 rfl ?_
  refine v_getR 24 C fl_RX10_46 rfl rfl rfl dX10_init_100 ?_
  refine v_iload_n C dX10_init_103 rfl ?_
  refine v_newA (ci := 4) 26 (layL.take 27) rfl rfl hB C rfl cl_RX10_44 ins_RX4 ini_RX4 (Nat.le_of_ble_eq_true rfl) (Nat.le_of_ble_eq_true rfl) dX10_init_104 ?_
  have hB := hB.grow (sh2 := (layL.take 27)) (by decide)
  refine v_dupr C dX10_init_107 ?_
  refine v_callNIv C (c_X4_init (a := 26) rfl) mt_X4_init lk_RX10_50 rfl rfl rfl rfl rfl dX10_init_108 ?_
  refine v_aastore 1 C rfl (q := _) (ci := 4) rfl ⟨rfl, by decide, by decide⟩ rfl (at_c rfl) dX10_init_111 ?_
  have hB := hB.ru (a := 24) (k := 1) (x := some 26) (by decide)
  refine v_iinc 2 C dX10_init_112 rfl (by decide) (Nat.le_of_ble_eq_true rfl) rfl ?_
  refine v_goto 94 C dX10_init_115 (by decide) ?_
  refine v_iload_n C dX10_init_94 rfl ?_
  refine v_iconst 5 C dX10_init_95 (by decide) ?_
  refine v_icmp_ge 118 C dX10_init_96 (by decide) (fun h96 => absurd h96 (by decide)) (fun _ => ?_)
  refine v_aload_n C dX10_init_99 rfl ?_
  refine v_getR 24 C fl_RX10_46 rfl rfl rfl dX10_init_100 ?_
  refine v_iload_n C dX10_init_103 rfl ?_
  refine v_newA (ci := 4) 27 (layL.take 28) rfl rfl hB C rfl cl_RX10_44 ins_RX4 ini_RX4 (Nat.le_of_ble_eq_true rfl) (Nat.le_of_ble_eq_true rfl) dX10_init_104 ?_
  have hB := hB.grow (sh2 := (layL.take 28)) (by decide)
  refine v_dupr C dX10_init_107 ?_
  refine v_callNIv C (c_X4_init (a := 27) rfl) mt_X4_init lk_RX10_50 rfl rfl rfl rfl rfl dX10_init_108 ?_
  refine v_aastore 2 C rfl (q := _) (ci := 4) rfl ⟨rfl, by decide, by decide⟩ rfl (at_c rfl) dX10_init_111 ?_
  have hB := hB.ru (a := 24) (k := 2) (x := some 27) (by decide)
  refine v_iinc 3 C dX10_init_112 rfl (by decide) (Nat.le_of_ble_eq_true rfl) rfl ?_
  refine v_goto 94 C dX10_init_115 (by decide) ?_
  refine v_iload_n C dX10_init_94 rfl ?_
  refine v_iconst 5 C dX10_init_95 (by decide) ?_
  refine v_icmp_ge 118 C dX10_init_96 (by decide) (fun h96 => absurd h96 (by decide)) (fun _ => ?_)
  refine v_aload_n C dX10_init_99 rfl ?_
  refine v_getR 24 C fl_RX10_46 rfl rfl rfl dX10_init_100 ?_
  refine v_iload_n C dX10_init_103 rfl ?_
  refine v_newA (ci := 4) 28 (layL.take 29) rfl rfl hB C rfl cl_RX10_44 ins_RX4 ini_RX4 (Nat.le_of_ble_eq_true rfl) (Nat.le_of_ble_eq_true rfl) dX10_init_104 ?_
  have hB := hB.grow (sh2 := (layL.take 29)) (by decide)
  refine v_dupr C dX10_init_107 ?_
  refine v_callNIv C (c_X4_init (a := 28) rfl) mt_X4_init lk_RX10_50 rfl rfl rfl rfl rfl dX10_init_108 ?_
  refine v_aastore 3 C rfl (q := _) (ci := 4) rfl ⟨rfl, by decide, by decide⟩ rfl (at_c rfl) dX10_init_111 ?_
  have hB := hB.ru (a := 24) (k := 3) (x := some 28) (by decide)
  refine v_iinc 4 C dX10_init_112 rfl (by decide) (Nat.le_of_ble_eq_true rfl) rfl ?_
  refine v_goto 94 C dX10_init_115 (by decide) ?_
  refine v_iload_n C dX10_init_94 rfl ?_
  refine v_iconst 5 C dX10_init_95 (by decide) ?_
  refine v_icmp_ge 118 C dX10_init_96 (by decide) (fun h96 => absurd h96 (by decide)) (fun _ => ?_)
  refine v_aload_n C dX10_init_99 rfl ?_
  refine v_getR 24 C fl_RX10_46 rfl rfl rfl dX10_init_100 ?_
  refine v_iload_n C dX10_init_103 rfl ?_
  refine v_newA (ci := 4) 29 (layL.take 30) rfl rfl hB C rfl cl_RX10_44 ins_RX4 ini_RX4 (Nat.le_of_ble_eq_true rfl) (Nat.le_of_ble_eq_true rfl) dX10_init_104 ?_
  have hB := hB.grow (sh2 := (layL.take 30)) (by decide)
  refine v_dupr C dX10_init_107 ?_
  refine v_callNIv C (c_X4_init (a := 29) rfl) mt_X4_init lk_RX10_50 rfl rfl rfl rfl rfl dX10_init_108 ?_
  refine v_aastore 4 C rfl (q := _) (ci := 4) rfl ⟨rfl, by decide, by decide⟩ rfl (at_c rfl) dX10_init_111 ?_
  have hB := hB.ru (a := 24) (k := 4) (x := some 29) (by decide)
  refine v_iinc 5 C dX10_init_112 rfl (by decide) (Nat.le_of_ble_eq_true rfl) rfl ?_
  refine v_goto 94 C dX10_init_115 (by decide) ?_
  refine v_iload_n C dX10_init_94 rfl ?_
  refine v_iconst 5 C dX10_init_95 (by decide) ?_
  refine v_icmp_ge 118 C dX10_init_96 (by decide) (fun _ => ?_) (fun h96 => absurd h96 (by decide))
  refine v_aload_n C dX10_init_118 rfl ?_
  refine v_iconst 3 C dX10_init_119 (by decide) ?_
  refine v_anewA (t := 6) 3 30 (layL.take 31) rfl rfl hB C ⟨rfl, by decide, by decide⟩ cl_RX10_51 ao_RX0 (by decide) (by decide) (Nat.le_of_ble_eq_true rfl) (Nat.le_of_ble_eq_true rfl) (Nat.le_of_ble_eq_true rfl) dX10_init_120 ?_
  have hB := hB.grow (sh2 := (layL.take 31)) (by decide)
  refine v_putFR C fl_RX10_53 rfl rfl rfl rfl rfl rfl dX10_init_123 ?_
  have hB := hB.ru (a := 0) (k := 6) (x := some 30) (by decide)
  refine v_iconst 0 C dX10_init_126 (by decide) ?_
  refine v_istore_n C dX10_init_127 (Nat.le_of_ble_eq_true rfl) rfl ?_
  refine v_iload_n C dX10_init_128 rfl ?_
  refine v_iconst 3 C dX10_init_129 (by decide) ?_
  refine v_icmp_ge 152 C dX10_init_130 (by decide) (fun h130 => absurd h130 (by decide)) (fun _ => ?_)
  refine v_aload_n C dX10_init_133 rfl ?_
  refine v_getR 30 C fl_RX10_53 rfl rfl rfl dX10_init_134 ?_
  refine v_iload_n C dX10_init_137 rfl ?_
  refine v_newA (ci := 0) 31 (layL.take 32) rfl rfl hB C rfl cl_RX10_51 ins_RX0 ini_RX0 (Nat.le_of_ble_eq_true rfl) (Nat.le_of_ble_eq_true rfl) dX10_init_138 ?_
  have hB := hB.grow (sh2 := (layL.take 32)) (by decide)
  refine v_dupr C dX10_init_141 ?_
  refine v_callNIv C (c_X0_init (a := 31) (n0 := 32) rfl hB rfl) mt_X0_init lk_RX10_57 rfl rfl rfl rfl rfl dX10_init_142 ?_
  refine v_eqS (show _ = (layL.take 33) from rfl) ?_
  have hB := ((hB.grow (sh2 := (layL.take 33)) (by decide)).ru (a := 31) (k := 0) (x := some 32) (by decide))
  refine v_aastore 0 C rfl (q := _) (ci := 0) rfl ⟨rfl, by decide, by decide⟩ rfl (at_c rfl) dX10_init_145 ?_
  have hB := hB.ru (a := 30) (k := 0) (x := some 31) (by decide)
  refine v_iinc 1 C dX10_init_146 rfl (by decide) (Nat.le_of_ble_eq_true rfl) rfl ?_
  refine v_goto 128 C dX10_init_149 (by decide) ?_
  refine v_iload_n C dX10_init_128 rfl ?_
  refine v_iconst 3 C dX10_init_129 (by decide) ?_
  refine v_icmp_ge 152 C dX10_init_130 (by decide) (fun h130 => absurd h130 (by decide)) (fun _ => ?_)
  refine v_aload_n C dX10_init_133 rfl ?_
  refine v_getR 30 C fl_RX10_53 rfl rfl rfl dX10_init_134 ?_
  refine v_iload_n C dX10_init_137 rfl ?_
  refine v_newA (ci := 0) 33 (layL.take 34) rfl rfl hB C rfl cl_RX10_51 ins_RX0 ini_RX0 (Nat.le_of_ble_eq_true rfl) (Nat.le_of_ble_eq_true rfl) dX10_init_138 ?_
  have hB := hB.grow (sh2 := (layL.take 34)) (by decide)
  refine v_dupr C dX10_init_141 ?_
  refine v_callNIv C (c_X0_init (a := 33) (n0 := 34) rfl hB rfl) mt_X0_init lk_RX10_57 rfl rfl rfl rfl rfl dX10_init_142 ?_
  refine v_eqS (show _ = (layL.take 35) from rfl) ?_
  have hB := ((hB.grow (sh2 := (layL.take 35)) (by decide)).ru (a := 33) (k := 0) (x := some 34) (by decide))
  refine v_aastore 1 C rfl (q := _) (ci := 0) rfl ⟨rfl, by decide, by decide⟩ rfl (at_c rfl) dX10_init_145 ?_
  have hB := hB.ru (a := 30) (k := 1) (x := some 33) (by decide)
  refine v_iinc 2 C dX10_init_146 rfl (by decide) (Nat.le_of_ble_eq_true rfl) rfl ?_
  refine v_goto 128 C dX10_init_149 (by decide) ?_
  refine v_iload_n C dX10_init_128 rfl ?_
  refine v_iconst 3 C dX10_init_129 (by decide) ?_
  refine v_icmp_ge 152 C dX10_init_130 (by decide) (fun h130 => absurd h130 (by decide)) (fun _ => ?_)
  refine v_aload_n C dX10_init_133 rfl ?_
  refine v_getR 30 C fl_RX10_53 rfl rfl rfl dX10_init_134 ?_
  refine v_iload_n C dX10_init_137 rfl ?_
  refine v_newA (ci := 0) 35 (layL.take 36) rfl rfl hB C rfl cl_RX10_51 ins_RX0 ini_RX0 (Nat.le_of_ble_eq_true rfl) (Nat.le_of_ble_eq_true rfl) dX10_init_138 ?_
  have hB := hB.grow (sh2 := (layL.take 36)) (by decide)
  refine v_dupr C dX10_init_141 ?_
  refine v_callNIv C (c_X0_init (a := 35) (n0 := 36) rfl hB rfl) mt_X0_init lk_RX10_57 rfl rfl rfl rfl rfl dX10_init_142 ?_
  refine v_eqS (show _ = (layL.take 37) from rfl) ?_
  have hB := ((hB.grow (sh2 := (layL.take 37)) (by decide)).ru (a := 35) (k := 0) (x := some 36) (by decide))
  refine v_aastore 2 C rfl (q := _) (ci := 0) rfl ⟨rfl, by decide, by decide⟩ rfl (at_c rfl) dX10_init_145 ?_
  have hB := hB.ru (a := 30) (k := 2) (x := some 35) (by decide)
  refine v_iinc 3 C dX10_init_146 rfl (by decide) (Nat.le_of_ble_eq_true rfl) rfl ?_
  refine v_goto 128 C dX10_init_149 (by decide) ?_
  refine v_iload_n C dX10_init_128 rfl ?_
  refine v_iconst 3 C dX10_init_129 (by decide) ?_
  refine v_icmp_ge 152 C dX10_init_130 (by decide) (fun _ => ?_) (fun h130 => absurd h130 (by decide))
  refine v_aload_n C dX10_init_152 rfl ?_
  refine v_iconst 4 C dX10_init_153 (by decide) ?_
  refine v_newIA 4 37 (layL.take 38) rfl rfl hB C ac_int (by decide) (by decide) (Nat.le_of_ble_eq_true rfl) (Nat.le_of_ble_eq_true rfl) (Nat.le_of_ble_eq_true rfl) dX10_init_154 ?_
  have hB := hB.grow (sh2 := (layL.take 38)) (by decide)
  refine v_putFR C fl_RX10_58 rfl rfl rfl rfl rfl rfl dX10_init_156 ?_
  have hB := hB.ru (a := 0) (k := 7) (x := some 37) (by decide)
  refine v_aload_n C dX10_init_159 rfl ?_
  refine v_getR 37 C fl_RX10_58 rfl rfl rfl dX10_init_160 ?_
  refine v_bipush 60 C dX10_init_163 (by decide) ?_
  refine v_callSv C (c_J7_fill_53178 (a := 37) (n := 4) rfl (by decide)) mt_J7_fill_53178 lk_RX10_62 rfl rfl rfl rfl rfl dX10_init_165 ?_
  have hB := hB.fill (a := 37) (n := 4) (x := 60) (by decide)
  refine v_aload_n C dX10_init_168 rfl ?_
  refine v_sipush 1000 C dX10_init_169 (by decide) ?_
  refine v_anewA (t := 7) 1000 38 (layL.take 39) rfl rfl hB C ⟨rfl, by decide, by decide⟩ cl_RX10_68 ao_RX6 (by decide) (by decide) (Nat.le_of_ble_eq_true rfl) (Nat.le_of_ble_eq_true rfl) (Nat.le_of_ble_eq_true rfl) dX10_init_172 ?_
  have hB := hB.grow (sh2 := (layL.take 39)) (by decide)
  refine v_putFR C fl_RX10_70 rfl rfl rfl rfl rfl rfl dX10_init_175 ?_
  have hB := hB.ru (a := 0) (k := 8) (x := some 38) (by decide)
  refine v_aload_n C dX10_init_178 rfl ?_
  refine v_newA (ci := 8) 39 (layL.take 40) rfl rfl hB C rfl cl_RX10_74 ins_RX8 ini_RX8 (Nat.le_of_ble_eq_true rfl) (Nat.le_of_ble_eq_true rfl) dX10_init_179 ?_
  have hB := hB.grow (sh2 := (layL.take 40)) (by decide)
  refine v_dupr C dX10_init_182 ?_
  refine v_callNIv C (c_X8_init (a := 39) (n0 := 40) (n1 := 41) rfl hB rfl rfl) mt_X8_init lk_RX10_76 rfl rfl rfl rfl rfl dX10_init_183 ?_
  refine v_eqS (show _ = (layL.take 42) from rfl) ?_
  have hB := (((hB.grow (sh2 := (layL.take 42)) (by decide)).ru (a := 39) (k := 2) (x := some 40) (by decide)).ru (a := 39) (k := 3) (x := some 41) (by decide))
  refine v_putFR C fl_RX10_77 rfl rfl rfl rfl rfl rfl dX10_init_186 ?_
  have hB := hB.ru (a := 0) (k := 9) (x := some 39) (by decide)
  refine v_aload_n C dX10_init_189 rfl ?_
  refine v_newA (ci := 5) 42 (layL.take 43) rfl rfl hB C rfl cl_RX10_81 ins_RX5 ini_RX5 (Nat.le_of_ble_eq_true rfl) (Nat.le_of_ble_eq_true rfl) dX10_init_190 ?_
  have hB := hB.grow (sh2 := (layL.take 43)) (by decide)
  refine v_dupr C dX10_init_193 ?_
  refine v_callNIv C (c_X5_init (a := 42) (n0 := 43) (n1 := 44) (n2 := 45) (n3 := 46) rfl hB rfl rfl rfl rfl) mt_X5_init lk_RX10_83 rfl rfl rfl rfl rfl dX10_init_194 ?_
  refine v_eqS (show _ = (layL.take 47) from rfl) ?_
  have hB := (((((hB.grow (sh2 := (layL.take 47)) (by decide)).ru (a := 42) (k := 0) (x := some 43) (by decide)).ru (a := 42) (k := 1) (x := some 44) (by decide)).ru (a := 42) (k := 2) (x := some 45) (by decide)).ru (a := 42) (k := 3) (x := some 46) (by decide))
  refine v_putFR C fl_RX10_84 rfl rfl rfl rfl rfl rfl dX10_init_197 ?_
  have hB := hB.ru (a := 0) (k := 10) (x := some 42) (by decide)
  exact v_vret C dX10_init_200 m_ret_rf

def initIm (I : IM) : IM := (iu (iu (iu (iu (iu (iu (iu (iu (iu (iu (iu (iu (iu (iu (iu (iu (iu I 66 0 60) 66 1 60) 66 2 60) 66 3 60) 53 0 (-1)) 53 1 (-1)) 53 2 (-1)) 53 3 (-1)) 53 4 (-1)) 53 5 (-1)) 85 0 (-1)) 85 1 (-1)) 85 2 (-1)) 85 3 (-1)) 85 4 (-1)) 85 5 (-1)) 85 6 (-1))
def initRm (R : RM) : RM := (ru (ru (ru (ru (ru (ru (ru (ru (ru (ru (ru (ru (ru (ru (ru (ru (ru (ru (ru (ru (ru (ru (ru (ru (ru (ru (ru (ru (ru (ru (ru (ru (ru (ru (ru (ru (ru (ru (ru (ru (ru (ru R 47 6 (some 48)) 47 7 (some 49)) 47 9 (some 50)) 47 10 (some 51)) 47 11 (some 52)) 47 13 (some 53)) 47 14 (some 54)) 47 15 (some 55)) 47 16 (some 56)) 47 17 (some 57)) 47 18 (some 58)) 47 19 (some 59)) 47 20 (some 60)) 47 21 (some 61)) 47 22 (some 62)) 47 23 (some 63)) 47 24 (some 64)) 47 25 (some 65)) 47 26 (some 66)) 47 28 (some 67)) 47 29 (some 68)) 47 30 (some 69)) 47 31 (some 70)) 47 32 (some 71)) 47 33 (some 72)) 47 34 (some 73)) 47 35 (some 74)) 47 36 (some 75)) 47 37 (some 76)) 47 38 (some 77)) 47 43 (some 78)) 47 44 (some 79)) 47 46 (some 80)) 47 47 (some 81)) 47 48 (some 82)) 47 49 (some 83)) 47 51 (some 84)) 47 52 (some 85)) 47 53 (some 86)) 47 54 (some 87)) 47 55 (some 88)) 47 57 (some 89))

set_option maxHeartbeats 4000000 in
set_option maxRecDepth 100000 in
theorem c_X11_init {lnc : Launch} {E : En} {I : IM} {J : JM} {R : RM} (hB : Blank (layL.take 48) I J R) : Ct lnc E yX11_init cX11_init 2 none 1 20 [.ref 47] (layL.take 48) I J R 42 1455428 (m_ret none layL (initIm I) J (initRm R)) := by
  refine Ct.of (lv := [some (.ref 47), none]) (by decide) (Nat.le_of_ble_eq_true rfl) rfl (fun X hX C => ?_)
  refine v_aload_n C dX11_init_0 rfl ?_
  refine v_objInit C lk_RX11_1 obj_inst obj_code rfl (Nat.le_of_ble_eq_true rfl) (Nat.le_of_ble_eq_true rfl) dX11_init_1 ?_
  refine v_aload_n C dX11_init_4 rfl ?_
  refine v_iconst 5 C dX11_init_5 (by decide) ?_
  refine v_newIA 5 48 (layL.take 49) rfl rfl hB C ac_int (by decide) (by decide) (Nat.le_of_ble_eq_true rfl) (Nat.le_of_ble_eq_true rfl) (Nat.le_of_ble_eq_true rfl) dX11_init_6 ?_
  have hB := hB.grow (sh2 := (layL.take 49)) (by decide)
  refine v_putFR C fl_RX11_7 rfl rfl rfl rfl rfl rfl dX11_init_8 ?_
  have hB := hB.ru (a := 47) (k := 6) (x := some 48) (by decide)
  refine v_aload_n C dX11_init_11 rfl ?_
  refine v_iconst 5 C dX11_init_12 (by decide) ?_
  refine v_newIA 5 49 (layL.take 50) rfl rfl hB C ac_int (by decide) (by decide) (Nat.le_of_ble_eq_true rfl) (Nat.le_of_ble_eq_true rfl) (Nat.le_of_ble_eq_true rfl) dX11_init_13 ?_
  have hB := hB.grow (sh2 := (layL.take 50)) (by decide)
  refine v_putFR C fl_RX11_13 rfl rfl rfl rfl rfl rfl dX11_init_15 ?_
  have hB := hB.ru (a := 47) (k := 7) (x := some 49) (by decide)
  refine v_aload_n C dX11_init_18 rfl ?_
  refine v_bipush 20 C dX11_init_19 (by decide) ?_
  refine v_newIA 20 50 (layL.take 51) rfl rfl hB C ac_int (by decide) (by decide) (Nat.le_of_ble_eq_true rfl) (Nat.le_of_ble_eq_true rfl) (Nat.le_of_ble_eq_true rfl) dX11_init_21 ?_
  have hB := hB.grow (sh2 := (layL.take 51)) (by decide)
  refine v_putFR C fl_RX11_16 rfl rfl rfl rfl rfl rfl dX11_init_23 ?_
  have hB := hB.ru (a := 47) (k := 9) (x := some 50) (by decide)
  refine v_aload_n C dX11_init_26 rfl ?_
  refine v_bipush 20 C dX11_init_27 (by decide) ?_
  refine v_newIA 20 51 (layL.take 52) rfl rfl hB C ac_int (by decide) (by decide) (Nat.le_of_ble_eq_true rfl) (Nat.le_of_ble_eq_true rfl) (Nat.le_of_ble_eq_true rfl) dX11_init_29 ?_
  have hB := hB.grow (sh2 := (layL.take 52)) (by decide)
  refine v_putFR C fl_RX11_19 rfl rfl rfl rfl rfl rfl dX11_init_31 ?_
  have hB := hB.ru (a := 47) (k := 10) (x := some 51) (by decide)
  refine v_aload_n C dX11_init_34 rfl ?_
  refine v_bipush 20 C dX11_init_35 (by decide) ?_
  refine v_newIA 20 52 (layL.take 53) rfl rfl hB C ac_int (by decide) (by decide) (Nat.le_of_ble_eq_true rfl) (Nat.le_of_ble_eq_true rfl) (Nat.le_of_ble_eq_true rfl) dX11_init_37 ?_
  have hB := hB.grow (sh2 := (layL.take 53)) (by decide)
  refine v_putFR C fl_RX11_22 rfl rfl rfl rfl rfl rfl dX11_init_39 ?_
  have hB := hB.ru (a := 47) (k := 11) (x := some 52) (by decide)
  refine v_aload_n C dX11_init_42 rfl ?_
  refine v_bipush 6 C dX11_init_43 (by decide) ?_
  refine v_newIA 6 53 (layL.take 54) rfl rfl hB C ac_int (by decide) (by decide) (Nat.le_of_ble_eq_true rfl) (Nat.le_of_ble_eq_true rfl) (Nat.le_of_ble_eq_true rfl) dX11_init_45 ?_
  have hB := hB.grow (sh2 := (layL.take 54)) (by decide)
  refine v_putFR C fl_RX11_25 rfl rfl rfl rfl rfl rfl dX11_init_47 ?_
  have hB := hB.ru (a := 47) (k := 13) (x := some 53) (by decide)
  refine v_aload_n C dX11_init_50 rfl ?_
  refine v_bipush 6 C dX11_init_51 (by decide) ?_
  refine v_newIA 6 54 (layL.take 55) rfl rfl hB C ac_int (by decide) (by decide) (Nat.le_of_ble_eq_true rfl) (Nat.le_of_ble_eq_true rfl) (Nat.le_of_ble_eq_true rfl) dX11_init_53 ?_
  have hB := hB.grow (sh2 := (layL.take 55)) (by decide)
  refine v_putFR C fl_RX11_28 rfl rfl rfl rfl rfl rfl dX11_init_55 ?_
  have hB := hB.ru (a := 47) (k := 14) (x := some 54) (by decide)
  refine v_aload_n C dX11_init_58 rfl ?_
  refine v_bipush 6 C dX11_init_59 (by decide) ?_
  refine v_newIA 6 55 (layL.take 56) rfl rfl hB C ac_int (by decide) (by decide) (Nat.le_of_ble_eq_true rfl) (Nat.le_of_ble_eq_true rfl) (Nat.le_of_ble_eq_true rfl) dX11_init_61 ?_
  have hB := hB.grow (sh2 := (layL.take 56)) (by decide)
  refine v_putFR C fl_RX11_31 rfl rfl rfl rfl rfl rfl dX11_init_63 ?_
  have hB := hB.ru (a := 47) (k := 15) (x := some 55) (by decide)
  refine v_aload_n C dX11_init_66 rfl ?_
  refine v_bipush 6 C dX11_init_67 (by decide) ?_
  refine v_newIA 6 56 (layL.take 57) rfl rfl hB C ac_int (by decide) (by decide) (Nat.le_of_ble_eq_true rfl) (Nat.le_of_ble_eq_true rfl) (Nat.le_of_ble_eq_true rfl) dX11_init_69 ?_
  have hB := hB.grow (sh2 := (layL.take 57)) (by decide)
  refine v_putFR C fl_RX11_34 rfl rfl rfl rfl rfl rfl dX11_init_71 ?_
  have hB := hB.ru (a := 47) (k := 16) (x := some 56) (by decide)
  refine v_aload_n C dX11_init_74 rfl ?_
  refine v_bipush 6 C dX11_init_75 (by decide) ?_
  refine v_newIA 6 57 (layL.take 58) rfl rfl hB C ac_int (by decide) (by decide) (Nat.le_of_ble_eq_true rfl) (Nat.le_of_ble_eq_true rfl) (Nat.le_of_ble_eq_true rfl) dX11_init_77 ?_
  have hB := hB.grow (sh2 := (layL.take 58)) (by decide)
  refine v_putFR C fl_RX11_37 rfl rfl rfl rfl rfl rfl dX11_init_79 ?_
  have hB := hB.ru (a := 47) (k := 17) (x := some 57) (by decide)
  refine v_aload_n C dX11_init_82 rfl ?_
  refine v_iconst 5 C dX11_init_83 (by decide) ?_
  refine v_newZA 5 58 (layL.take 59) rfl rfl hB C ac_boolean (by decide) (by decide) (Nat.le_of_ble_eq_true rfl) (Nat.le_of_ble_eq_true rfl) (Nat.le_of_ble_eq_true rfl) dX11_init_84 ?_
  have hB := hB.grow (sh2 := (layL.take 59)) (by decide)
  refine v_putFR C fl_RX11_40 rfl rfl rfl rfl rfl rfl dX11_init_86 ?_
  have hB := hB.ru (a := 47) (k := 18) (x := some 58) (by decide)
  refine v_aload_n C dX11_init_89 rfl ?_
  refine v_iconst 5 C dX11_init_90 (by decide) ?_
  refine v_newIA 5 59 (layL.take 60) rfl rfl hB C ac_int (by decide) (by decide) (Nat.le_of_ble_eq_true rfl) (Nat.le_of_ble_eq_true rfl) (Nat.le_of_ble_eq_true rfl) dX11_init_91 ?_
  have hB := hB.grow (sh2 := (layL.take 60)) (by decide)
  refine v_putFR C fl_RX11_44 rfl rfl rfl rfl rfl rfl dX11_init_93 ?_
  have hB := hB.ru (a := 47) (k := 19) (x := some 59) (by decide)
  refine v_aload_n C dX11_init_96 rfl ?_
  refine v_iconst 5 C dX11_init_97 (by decide) ?_
  refine v_newIA 5 60 (layL.take 61) rfl rfl hB C ac_int (by decide) (by decide) (Nat.le_of_ble_eq_true rfl) (Nat.le_of_ble_eq_true rfl) (Nat.le_of_ble_eq_true rfl) dX11_init_98 ?_
  have hB := hB.grow (sh2 := (layL.take 61)) (by decide)
  refine v_putFR C fl_RX11_47 rfl rfl rfl rfl rfl rfl dX11_init_100 ?_
  have hB := hB.ru (a := 47) (k := 20) (x := some 60) (by decide)
  refine v_aload_n C dX11_init_103 rfl ?_
  refine v_iconst 5 C dX11_init_104 (by decide) ?_
  refine v_newIA 5 61 (layL.take 62) rfl rfl hB C ac_int (by decide) (by decide) (Nat.le_of_ble_eq_true rfl) (Nat.le_of_ble_eq_true rfl) (Nat.le_of_ble_eq_true rfl) dX11_init_105 ?_
  have hB := hB.grow (sh2 := (layL.take 62)) (by decide)
  refine v_putFR C fl_RX11_50 rfl rfl rfl rfl rfl rfl dX11_init_107 ?_
  have hB := hB.ru (a := 47) (k := 21) (x := some 61) (by decide)
  refine v_aload_n C dX11_init_110 rfl ?_
  refine v_iconst 5 C dX11_init_111 (by decide) ?_
  refine v_newIA 5 62 (layL.take 63) rfl rfl hB C ac_int (by decide) (by decide) (Nat.le_of_ble_eq_true rfl) (Nat.le_of_ble_eq_true rfl) (Nat.le_of_ble_eq_true rfl) dX11_init_112 ?_
  have hB := hB.grow (sh2 := (layL.take 63)) (by decide)
  refine v_putFR C fl_RX11_53 rfl rfl rfl rfl rfl rfl dX11_init_114 ?_
  have hB := hB.ru (a := 47) (k := 22) (x := some 62) (by decide)
  refine v_aload_n C dX11_init_117 rfl ?_
  refine v_iconst 5 C dX11_init_118 (by decide) ?_
  refine v_newIA 5 63 (layL.take 64) rfl rfl hB C ac_int (by decide) (by decide) (Nat.le_of_ble_eq_true rfl) (Nat.le_of_ble_eq_true rfl) (Nat.le_of_ble_eq_true rfl) dX11_init_119 ?_
  have hB := hB.grow (sh2 := (layL.take 64)) (by decide)
  refine v_putFR C fl_RX11_56 rfl rfl rfl rfl rfl rfl dX11_init_121 ?_
  have hB := hB.ru (a := 47) (k := 23) (x := some 63) (by decide)
  refine v_aload_n C dX11_init_124 rfl ?_
  refine v_iconst 5 C dX11_init_125 (by decide) ?_
  refine v_newIA 5 64 (layL.take 65) rfl rfl hB C ac_int (by decide) (by decide) (Nat.le_of_ble_eq_true rfl) (Nat.le_of_ble_eq_true rfl) (Nat.le_of_ble_eq_true rfl) dX11_init_126 ?_
  have hB := hB.grow (sh2 := (layL.take 65)) (by decide)
  refine v_putFR C fl_RX11_59 rfl rfl rfl rfl rfl rfl dX11_init_128 ?_
  have hB := hB.ru (a := 47) (k := 24) (x := some 64) (by decide)
  refine v_aload_n C dX11_init_131 rfl ?_
  refine v_iconst 5 C dX11_init_132 (by decide) ?_
  refine v_newIA 5 65 (layL.take 66) rfl rfl hB C ac_int (by decide) (by decide) (Nat.le_of_ble_eq_true rfl) (Nat.le_of_ble_eq_true rfl) (Nat.le_of_ble_eq_true rfl) dX11_init_133 ?_
  have hB := hB.grow (sh2 := (layL.take 66)) (by decide)
  refine v_putFR C fl_RX11_62 rfl rfl rfl rfl rfl rfl dX11_init_135 ?_
  have hB := hB.ru (a := 47) (k := 25) (x := some 65) (by decide)
  refine v_aload_n C dX11_init_138 rfl ?_
  refine v_iconst 4 C dX11_init_139 (by decide) ?_
  refine v_newIA 4 66 (layL.take 67) rfl rfl hB C ac_int (by decide) (by decide) (Nat.le_of_ble_eq_true rfl) (Nat.le_of_ble_eq_true rfl) (Nat.le_of_ble_eq_true rfl) dX11_init_140 ?_
  have hB := hB.grow (sh2 := (layL.take 67)) (by decide)
  refine v_dupr C dX11_init_142 ?_
  refine v_iconst 0 C dX11_init_143 (by decide) ?_
  refine v_bipush 60 C dX11_init_144 (by decide) ?_
  refine v_iastore 0 C rfl (at_c rfl) dX11_init_146 ?_
  have hB := hB.iu (a := 66) (k := 0) (x := 60) (by decide)
  refine v_dupr C dX11_init_147 ?_
  refine v_iconst 1 C dX11_init_148 (by decide) ?_
  refine v_bipush 60 C dX11_init_149 (by decide) ?_
  refine v_iastore 1 C rfl (at_c rfl) dX11_init_151 ?_
  have hB := hB.iu (a := 66) (k := 1) (x := 60) (by decide)
  refine v_dupr C dX11_init_152 ?_
  refine v_iconst 2 C dX11_init_153 (by decide) ?_
  refine v_bipush 60 C dX11_init_154 (by decide) ?_
  refine v_iastore 2 C rfl (at_c rfl) dX11_init_156 ?_
  have hB := hB.iu (a := 66) (k := 2) (x := 60) (by decide)
  refine v_dupr C dX11_init_157 ?_
  refine v_iconst 3 C dX11_init_158 (by decide) ?_
  refine v_bipush 60 C dX11_init_159 (by decide) ?_
  refine v_iastore 3 C rfl (at_c rfl) dX11_init_161 ?_
  have hB := hB.iu (a := 66) (k := 3) (x := 60) (by decide)
  refine v_putFR C fl_RX11_65 rfl rfl rfl rfl rfl rfl dX11_init_162 ?_
  have hB := hB.ru (a := 47) (k := 26) (x := some 66) (by decide)
  refine v_aload_n C dX11_init_165 rfl ?_
  refine v_sipush 1000 C dX11_init_166 (by decide) ?_
  refine v_newIA 1000 67 (layL.take 68) rfl rfl hB C ac_int (by decide) (by decide) (Nat.le_of_ble_eq_true rfl) (Nat.le_of_ble_eq_true rfl) (Nat.le_of_ble_eq_true rfl) dX11_init_169 ?_
  have hB := hB.grow (sh2 := (layL.take 68)) (by decide)
  refine v_putFR C fl_RX11_68 rfl rfl rfl rfl rfl rfl dX11_init_171 ?_
  have hB := hB.ru (a := 47) (k := 28) (x := some 67) (by decide)
  refine v_aload_n C dX11_init_174 rfl ?_
  refine v_sipush 1000 C dX11_init_175 (by decide) ?_
  refine v_newIA 1000 68 (layL.take 69) rfl rfl hB C ac_int (by decide) (by decide) (Nat.le_of_ble_eq_true rfl) (Nat.le_of_ble_eq_true rfl) (Nat.le_of_ble_eq_true rfl) dX11_init_178 ?_
  have hB := hB.grow (sh2 := (layL.take 69)) (by decide)
  refine v_putFR C fl_RX11_71 rfl rfl rfl rfl rfl rfl dX11_init_180 ?_
  have hB := hB.ru (a := 47) (k := 29) (x := some 68) (by decide)
  refine v_aload_n C dX11_init_183 rfl ?_
  refine v_sipush 1000 C dX11_init_184 (by decide) ?_
  refine v_newIA 1000 69 (layL.take 70) rfl rfl hB C ac_int (by decide) (by decide) (Nat.le_of_ble_eq_true rfl) (Nat.le_of_ble_eq_true rfl) (Nat.le_of_ble_eq_true rfl) dX11_init_187 ?_
  have hB := hB.grow (sh2 := (layL.take 70)) (by decide)
  refine v_putFR C fl_RX11_74 rfl rfl rfl rfl rfl rfl dX11_init_189 ?_
  have hB := hB.ru (a := 47) (k := 30) (x := some 69) (by decide)
  refine v_aload_n C dX11_init_192 rfl ?_
  refine v_sipush 1000 C dX11_init_193 (by decide) ?_
  refine v_newIA 1000 70 (layL.take 71) rfl rfl hB C ac_int (by decide) (by decide) (Nat.le_of_ble_eq_true rfl) (Nat.le_of_ble_eq_true rfl) (Nat.le_of_ble_eq_true rfl) dX11_init_196 ?_
  have hB := hB.grow (sh2 := (layL.take 71)) (by decide)
  refine v_putFR C fl_RX11_77 rfl rfl rfl rfl rfl rfl dX11_init_198 ?_
  have hB := hB.ru (a := 47) (k := 31) (x := some 70) (by decide)
  refine v_aload_n C dX11_init_201 rfl ?_
  refine v_sipush 1000 C dX11_init_202 (by decide) ?_
  refine v_newIA 1000 71 (layL.take 72) rfl rfl hB C ac_int (by decide) (by decide) (Nat.le_of_ble_eq_true rfl) (Nat.le_of_ble_eq_true rfl) (Nat.le_of_ble_eq_true rfl) dX11_init_205 ?_
  have hB := hB.grow (sh2 := (layL.take 72)) (by decide)
  refine v_putFR C fl_RX11_80 rfl rfl rfl rfl rfl rfl dX11_init_207 ?_
  have hB := hB.ru (a := 47) (k := 32) (x := some 71) (by decide)
  refine v_aload_n C dX11_init_210 rfl ?_
  refine v_sipush 1000 C dX11_init_211 (by decide) ?_
  refine v_newIA 1000 72 (layL.take 73) rfl rfl hB C ac_int (by decide) (by decide) (Nat.le_of_ble_eq_true rfl) (Nat.le_of_ble_eq_true rfl) (Nat.le_of_ble_eq_true rfl) dX11_init_214 ?_
  have hB := hB.grow (sh2 := (layL.take 73)) (by decide)
  refine v_putFR C fl_RX11_83 rfl rfl rfl rfl rfl rfl dX11_init_216 ?_
  have hB := hB.ru (a := 47) (k := 33) (x := some 72) (by decide)
  refine v_aload_n C dX11_init_219 rfl ?_
  refine v_sipush 1000 C dX11_init_220 (by decide) ?_
  refine v_newIA 1000 73 (layL.take 74) rfl rfl hB C ac_int (by decide) (by decide) (Nat.le_of_ble_eq_true rfl) (Nat.le_of_ble_eq_true rfl) (Nat.le_of_ble_eq_true rfl) dX11_init_223 ?_
  have hB := hB.grow (sh2 := (layL.take 74)) (by decide)
  refine v_putFR C fl_RX11_86 rfl rfl rfl rfl rfl rfl dX11_init_225 ?_
  have hB := hB.ru (a := 47) (k := 34) (x := some 73) (by decide)
  refine v_aload_n C dX11_init_228 rfl ?_
  refine v_sipush 1000 C dX11_init_229 (by decide) ?_
  refine v_newIA 1000 74 (layL.take 75) rfl rfl hB C ac_int (by decide) (by decide) (Nat.le_of_ble_eq_true rfl) (Nat.le_of_ble_eq_true rfl) (Nat.le_of_ble_eq_true rfl) dX11_init_232 ?_
  have hB := hB.grow (sh2 := (layL.take 75)) (by decide)
  refine v_putFR C fl_RX11_89 rfl rfl rfl rfl rfl rfl dX11_init_234 ?_
  have hB := hB.ru (a := 47) (k := 35) (x := some 74) (by decide)
  refine v_aload_n C dX11_init_237 rfl ?_
  refine v_sipush 1000 C dX11_init_238 (by decide) ?_
  refine v_newIA 1000 75 (layL.take 76) rfl rfl hB C ac_int (by decide) (by decide) (Nat.le_of_ble_eq_true rfl) (Nat.le_of_ble_eq_true rfl) (Nat.le_of_ble_eq_true rfl) dX11_init_241 ?_
  have hB := hB.grow (sh2 := (layL.take 76)) (by decide)
  refine v_putFR C fl_RX11_92 rfl rfl rfl rfl rfl rfl dX11_init_243 ?_
  have hB := hB.ru (a := 47) (k := 36) (x := some 75) (by decide)
  refine v_aload_n C dX11_init_246 rfl ?_
  refine v_iconst 3 C dX11_init_247 (by decide) ?_
  refine v_newIA 3 76 (layL.take 77) rfl rfl hB C ac_int (by decide) (by decide) (Nat.le_of_ble_eq_true rfl) (Nat.le_of_ble_eq_true rfl) (Nat.le_of_ble_eq_true rfl) dX11_init_248 ?_
  have hB := hB.grow (sh2 := (layL.take 77)) (by decide)
  refine v_putFR C fl_RX11_95 rfl rfl rfl rfl rfl rfl dX11_init_250 ?_
  have hB := hB.ru (a := 47) (k := 37) (x := some 76) (by decide)
  refine v_aload_n C dX11_init_253 rfl ?_
  refine v_sipush 200 C dX11_init_254 (by decide) ?_
  refine v_newBA 200 77 (layL.take 78) rfl rfl hB C ac_byte (by decide) (by decide) (Nat.le_of_ble_eq_true rfl) (Nat.le_of_ble_eq_true rfl) (Nat.le_of_ble_eq_true rfl) dX11_init_257 ?_
  have hB := hB.grow (sh2 := (layL.take 78)) (by decide)
  refine v_putFR C fl_RX11_98 rfl rfl rfl rfl rfl rfl dX11_init_259 ?_
  have hB := hB.ru (a := 47) (k := 38) (x := some 77) (by decide)
  refine v_aload_n C dX11_init_262 rfl ?_
  refine v_bipush 8 C dX11_init_263 (by decide) ?_
  refine v_newIA 8 78 (layL.take 79) rfl rfl hB C ac_int (by decide) (by decide) (Nat.le_of_ble_eq_true rfl) (Nat.le_of_ble_eq_true rfl) (Nat.le_of_ble_eq_true rfl) dX11_init_265 ?_
  have hB := hB.grow (sh2 := (layL.take 79)) (by decide)
  refine v_putFR C fl_RX11_102 rfl rfl rfl rfl rfl rfl dX11_init_267 ?_
  have hB := hB.ru (a := 47) (k := 43) (x := some 78) (by decide)
  refine v_aload_n C dX11_init_270 rfl ?_
  refine v_bipush 8 C dX11_init_271 (by decide) ?_
  refine v_newIA 8 79 (layL.take 80) rfl rfl hB C ac_int (by decide) (by decide) (Nat.le_of_ble_eq_true rfl) (Nat.le_of_ble_eq_true rfl) (Nat.le_of_ble_eq_true rfl) dX11_init_273 ?_
  have hB := hB.grow (sh2 := (layL.take 80)) (by decide)
  refine v_putFR C fl_RX11_105 rfl rfl rfl rfl rfl rfl dX11_init_275 ?_
  have hB := hB.ru (a := 47) (k := 44) (x := some 79) (by decide)
  refine v_aload_n C dX11_init_278 rfl ?_
  refine v_bipush 8 C dX11_init_279 (by decide) ?_
  refine v_newIA 8 80 (layL.take 81) rfl rfl hB C ac_int (by decide) (by decide) (Nat.le_of_ble_eq_true rfl) (Nat.le_of_ble_eq_true rfl) (Nat.le_of_ble_eq_true rfl) dX11_init_281 ?_
  have hB := hB.grow (sh2 := (layL.take 81)) (by decide)
  refine v_putFR C fl_RX11_108 rfl rfl rfl rfl rfl rfl dX11_init_283 ?_
  have hB := hB.ru (a := 47) (k := 46) (x := some 80) (by decide)
  refine v_aload_n C dX11_init_286 rfl ?_
  refine v_bipush 8 C dX11_init_287 (by decide) ?_
  refine v_newIA 8 81 (layL.take 82) rfl rfl hB C ac_int (by decide) (by decide) (Nat.le_of_ble_eq_true rfl) (Nat.le_of_ble_eq_true rfl) (Nat.le_of_ble_eq_true rfl) dX11_init_289 ?_
  have hB := hB.grow (sh2 := (layL.take 82)) (by decide)
  refine v_putFR C fl_RX11_111 rfl rfl rfl rfl rfl rfl dX11_init_291 ?_
  have hB := hB.ru (a := 47) (k := 47) (x := some 81) (by decide)
  refine v_aload_n C dX11_init_294 rfl ?_
  refine v_bipush 8 C dX11_init_295 (by decide) ?_
  refine v_newIA 8 82 (layL.take 83) rfl rfl hB C ac_int (by decide) (by decide) (Nat.le_of_ble_eq_true rfl) (Nat.le_of_ble_eq_true rfl) (Nat.le_of_ble_eq_true rfl) dX11_init_297 ?_
  have hB := hB.grow (sh2 := (layL.take 83)) (by decide)
  refine v_putFR C fl_RX11_114 rfl rfl rfl rfl rfl rfl dX11_init_299 ?_
  have hB := hB.ru (a := 47) (k := 48) (x := some 82) (by decide)
  refine v_aload_n C dX11_init_302 rfl ?_
  refine v_bipush 8 C dX11_init_303 (by decide) ?_
  refine v_newIA 8 83 (layL.take 84) rfl rfl hB C ac_int (by decide) (by decide) (Nat.le_of_ble_eq_true rfl) (Nat.le_of_ble_eq_true rfl) (Nat.le_of_ble_eq_true rfl) dX11_init_305 ?_
  have hB := hB.grow (sh2 := (layL.take 84)) (by decide)
  refine v_putFR C fl_RX11_117 rfl rfl rfl rfl rfl rfl dX11_init_307 ?_
  have hB := hB.ru (a := 47) (k := 49) (x := some 83) (by decide)
  refine v_aload_n C dX11_init_310 rfl ?_
  refine v_ldc 1445886 C ct_RX11_120 dX11_init_311 ?_
  refine v_newJA 1445886 84 (layL.take 85) rfl rfl hB C ac_long (by decide) (by decide) (Nat.le_of_ble_eq_true rfl) (Nat.le_of_ble_eq_true rfl) (Nat.le_of_ble_eq_true rfl) dX11_init_313 ?_
  have hB := hB.grow (sh2 := (layL.take 85)) (by decide)
  refine v_putFR C fl_RX11_121 rfl rfl rfl rfl rfl rfl dX11_init_315 ?_
  have hB := hB.ru (a := 47) (k := 51) (x := some 84) (by decide)
  refine v_aload_n C dX11_init_318 rfl ?_
  refine v_bipush 7 C dX11_init_319 (by decide) ?_
  refine v_newIA 7 85 (layL.take 86) rfl rfl hB C ac_int (by decide) (by decide) (Nat.le_of_ble_eq_true rfl) (Nat.le_of_ble_eq_true rfl) (Nat.le_of_ble_eq_true rfl) dX11_init_321 ?_
  have hB := hB.grow (sh2 := (layL.take 86)) (by decide)
  refine v_putFR C fl_RX11_125 rfl rfl rfl rfl rfl rfl dX11_init_323 ?_
  have hB := hB.ru (a := 47) (k := 52) (x := some 85) (by decide)
  refine v_aload_n C dX11_init_326 rfl ?_
  refine v_bipush 50 C dX11_init_327 (by decide) ?_
  refine v_newIA 50 86 (layL.take 87) rfl rfl hB C ac_int (by decide) (by decide) (Nat.le_of_ble_eq_true rfl) (Nat.le_of_ble_eq_true rfl) (Nat.le_of_ble_eq_true rfl) dX11_init_329 ?_
  have hB := hB.grow (sh2 := (layL.take 87)) (by decide)
  refine v_putFR C fl_RX11_128 rfl rfl rfl rfl rfl rfl dX11_init_331 ?_
  have hB := hB.ru (a := 47) (k := 53) (x := some 86) (by decide)
  refine v_aload_n C dX11_init_334 rfl ?_
  refine v_bipush 25 C dX11_init_335 (by decide) ?_
  refine v_newIA 25 87 (layL.take 88) rfl rfl hB C ac_int (by decide) (by decide) (Nat.le_of_ble_eq_true rfl) (Nat.le_of_ble_eq_true rfl) (Nat.le_of_ble_eq_true rfl) dX11_init_337 ?_
  have hB := hB.grow (sh2 := (layL.take 88)) (by decide)
  refine v_putFR C fl_RX11_131 rfl rfl rfl rfl rfl rfl dX11_init_339 ?_
  have hB := hB.ru (a := 47) (k := 54) (x := some 87) (by decide)
  refine v_aload_n C dX11_init_342 rfl ?_
  refine v_bipush 55 C dX11_init_343 (by decide) ?_
  refine v_newIA 55 88 (layL.take 89) rfl rfl hB C ac_int (by decide) (by decide) (Nat.le_of_ble_eq_true rfl) (Nat.le_of_ble_eq_true rfl) (Nat.le_of_ble_eq_true rfl) dX11_init_345 ?_
  have hB := hB.grow (sh2 := (layL.take 89)) (by decide)
  refine v_putFR C fl_RX11_134 rfl rfl rfl rfl rfl rfl dX11_init_347 ?_
  have hB := hB.ru (a := 47) (k := 55) (x := some 88) (by decide)
  refine v_aload_n C dX11_init_350 rfl ?_
  refine v_bipush 10 C dX11_init_351 (by decide) ?_
  refine v_newIA 10 89 (layL.take 90) rfl rfl hB C ac_int (by decide) (by decide) (Nat.le_of_ble_eq_true rfl) (Nat.le_of_ble_eq_true rfl) (Nat.le_of_ble_eq_true rfl) dX11_init_353 ?_
  have hB := hB.grow (sh2 := (layL.take 90)) (by decide)
  refine v_putFR C fl_RX11_137 rfl rfl rfl rfl rfl rfl dX11_init_355 ?_
  have hB := hB.ru (a := 47) (k := 57) (x := some 89) (by decide)
  refine v_iconst 0 C dX11_init_358 (by decide) ?_
  refine v_istore_n C dX11_init_359 (Nat.le_of_ble_eq_true rfl) rfl ?_
  refine v_iload_n C dX11_init_360 rfl ?_
  refine v_bipush 6 C dX11_init_361 (by decide) ?_
  refine v_icmp_ge 379 C dX11_init_363 (by decide) (fun h363 => absurd h363 (by decide)) (fun _ => ?_)
  refine v_aload_n C dX11_init_366 rfl ?_
  refine v_getR 53 C fl_RX11_25 rfl rfl rfl dX11_init_367 ?_
  refine v_iload_n C dX11_init_370 rfl ?_
  refine v_iconst (-1) C dX11_init_371 (by decide) ?_
  refine v_iastore 0 C rfl (at_c rfl) dX11_init_372 ?_
  refine v_iinc 1 C dX11_init_373 rfl (by decide) (Nat.le_of_ble_eq_true rfl) rfl ?_
  refine v_goto 360 C dX11_init_376 (by decide) ?_
  refine v_iload_n C dX11_init_360 rfl ?_
  refine v_bipush 6 C dX11_init_361 (by decide) ?_
  refine v_icmp_ge 379 C dX11_init_363 (by decide) (fun h363 => absurd h363 (by decide)) (fun _ => ?_)
  refine v_aload_n C dX11_init_366 rfl ?_
  refine v_getR 53 C fl_RX11_25 rfl rfl rfl dX11_init_367 ?_
  refine v_iload_n C dX11_init_370 rfl ?_
  refine v_iconst (-1) C dX11_init_371 (by decide) ?_
  refine v_iastore 1 C rfl (at_c rfl) dX11_init_372 ?_
  refine v_iinc 2 C dX11_init_373 rfl (by decide) (Nat.le_of_ble_eq_true rfl) rfl ?_
  refine v_goto 360 C dX11_init_376 (by decide) ?_
  refine v_iload_n C dX11_init_360 rfl ?_
  refine v_bipush 6 C dX11_init_361 (by decide) ?_
  refine v_icmp_ge 379 C dX11_init_363 (by decide) (fun h363 => absurd h363 (by decide)) (fun _ => ?_)
  refine v_aload_n C dX11_init_366 rfl ?_
  refine v_getR 53 C fl_RX11_25 rfl rfl rfl dX11_init_367 ?_
  refine v_iload_n C dX11_init_370 rfl ?_
  refine v_iconst (-1) C dX11_init_371 (by decide) ?_
  refine v_iastore 2 C rfl (at_c rfl) dX11_init_372 ?_
  refine v_iinc 3 C dX11_init_373 rfl (by decide) (Nat.le_of_ble_eq_true rfl) rfl ?_
  refine v_goto 360 C dX11_init_376 (by decide) ?_
  refine v_iload_n C dX11_init_360 rfl ?_
  refine v_bipush 6 C dX11_init_361 (by decide) ?_
  refine v_icmp_ge 379 C dX11_init_363 (by decide) (fun h363 => absurd h363 (by decide)) (fun _ => ?_)
  refine v_aload_n C dX11_init_366 rfl ?_
  refine v_getR 53 C fl_RX11_25 rfl rfl rfl dX11_init_367 ?_
  refine v_iload_n C dX11_init_370 rfl ?_
  refine v_iconst (-1) C dX11_init_371 (by decide) ?_
  refine v_iastore 3 C rfl (at_c rfl) dX11_init_372 ?_
  refine v_iinc 4 C dX11_init_373 rfl (by decide) (Nat.le_of_ble_eq_true rfl) rfl ?_
  refine v_goto 360 C dX11_init_376 (by decide) ?_
  refine v_iload_n C dX11_init_360 rfl ?_
  refine v_bipush 6 C dX11_init_361 (by decide) ?_
  refine v_icmp_ge 379 C dX11_init_363 (by decide) (fun h363 => absurd h363 (by decide)) (fun _ => ?_)
  refine v_aload_n C dX11_init_366 rfl ?_
  refine v_getR 53 C fl_RX11_25 rfl rfl rfl dX11_init_367 ?_
  refine v_iload_n C dX11_init_370 rfl ?_
  refine v_iconst (-1) C dX11_init_371 (by decide) ?_
  refine v_iastore 4 C rfl (at_c rfl) dX11_init_372 ?_
  refine v_iinc 5 C dX11_init_373 rfl (by decide) (Nat.le_of_ble_eq_true rfl) rfl ?_
  refine v_goto 360 C dX11_init_376 (by decide) ?_
  refine v_iload_n C dX11_init_360 rfl ?_
  refine v_bipush 6 C dX11_init_361 (by decide) ?_
  refine v_icmp_ge 379 C dX11_init_363 (by decide) (fun h363 => absurd h363 (by decide)) (fun _ => ?_)
  refine v_aload_n C dX11_init_366 rfl ?_
  refine v_getR 53 C fl_RX11_25 rfl rfl rfl dX11_init_367 ?_
  refine v_iload_n C dX11_init_370 rfl ?_
  refine v_iconst (-1) C dX11_init_371 (by decide) ?_
  refine v_iastore 5 C rfl (at_c rfl) dX11_init_372 ?_
  refine v_iinc 6 C dX11_init_373 rfl (by decide) (Nat.le_of_ble_eq_true rfl) rfl ?_
  refine v_goto 360 C dX11_init_376 (by decide) ?_
  refine v_iload_n C dX11_init_360 rfl ?_
  refine v_bipush 6 C dX11_init_361 (by decide) ?_
  refine v_icmp_ge 379 C dX11_init_363 (by decide) (fun _ => ?_) (fun h363 => absurd h363 (by decide))
  refine v_iconst 0 C dX11_init_379 (by decide) ?_
  refine v_istore_n C dX11_init_380 (Nat.le_of_ble_eq_true rfl) rfl ?_
  refine v_iload_n C dX11_init_381 rfl ?_
  refine v_bipush 7 C dX11_init_382 (by decide) ?_
  refine v_icmp_ge 400 C dX11_init_384 (by decide) (fun h384 => absurd h384 (by decide)) (fun _ => ?_)
  refine v_aload_n C dX11_init_387 rfl ?_
  refine v_getR 85 C fl_RX11_125 rfl rfl rfl dX11_init_388 ?_
  refine v_iload_n C dX11_init_391 rfl ?_
  refine v_iconst (-1) C dX11_init_392 (by decide) ?_
  refine v_iastore 0 C rfl (at_c rfl) dX11_init_393 ?_
  refine v_iinc 1 C dX11_init_394 rfl (by decide) (Nat.le_of_ble_eq_true rfl) rfl ?_
  refine v_goto 381 C dX11_init_397 (by decide) ?_
  refine v_iload_n C dX11_init_381 rfl ?_
  refine v_bipush 7 C dX11_init_382 (by decide) ?_
  refine v_icmp_ge 400 C dX11_init_384 (by decide) (fun h384 => absurd h384 (by decide)) (fun _ => ?_)
  refine v_aload_n C dX11_init_387 rfl ?_
  refine v_getR 85 C fl_RX11_125 rfl rfl rfl dX11_init_388 ?_
  refine v_iload_n C dX11_init_391 rfl ?_
  refine v_iconst (-1) C dX11_init_392 (by decide) ?_
  refine v_iastore 1 C rfl (at_c rfl) dX11_init_393 ?_
  refine v_iinc 2 C dX11_init_394 rfl (by decide) (Nat.le_of_ble_eq_true rfl) rfl ?_
  refine v_goto 381 C dX11_init_397 (by decide) ?_
  refine v_iload_n C dX11_init_381 rfl ?_
  refine v_bipush 7 C dX11_init_382 (by decide) ?_
  refine v_icmp_ge 400 C dX11_init_384 (by decide) (fun h384 => absurd h384 (by decide)) (fun _ => ?_)
  refine v_aload_n C dX11_init_387 rfl ?_
  refine v_getR 85 C fl_RX11_125 rfl rfl rfl dX11_init_388 ?_
  refine v_iload_n C dX11_init_391 rfl ?_
  refine v_iconst (-1) C dX11_init_392 (by decide) ?_
  refine v_iastore 2 C rfl (at_c rfl) dX11_init_393 ?_
  refine v_iinc 3 C dX11_init_394 rfl (by decide) (Nat.le_of_ble_eq_true rfl) rfl ?_
  refine v_goto 381 C dX11_init_397 (by decide) ?_
  refine v_iload_n C dX11_init_381 rfl ?_
  refine v_bipush 7 C dX11_init_382 (by decide) ?_
  refine v_icmp_ge 400 C dX11_init_384 (by decide) (fun h384 => absurd h384 (by decide)) (fun _ => ?_)
  refine v_aload_n C dX11_init_387 rfl ?_
  refine v_getR 85 C fl_RX11_125 rfl rfl rfl dX11_init_388 ?_
  refine v_iload_n C dX11_init_391 rfl ?_
  refine v_iconst (-1) C dX11_init_392 (by decide) ?_
  refine v_iastore 3 C rfl (at_c rfl) dX11_init_393 ?_
  refine v_iinc 4 C dX11_init_394 rfl (by decide) (Nat.le_of_ble_eq_true rfl) rfl ?_
  refine v_goto 381 C dX11_init_397 (by decide) ?_
  refine v_iload_n C dX11_init_381 rfl ?_
  refine v_bipush 7 C dX11_init_382 (by decide) ?_
  refine v_icmp_ge 400 C dX11_init_384 (by decide) (fun h384 => absurd h384 (by decide)) (fun _ => ?_)
  refine v_aload_n C dX11_init_387 rfl ?_
  refine v_getR 85 C fl_RX11_125 rfl rfl rfl dX11_init_388 ?_
  refine v_iload_n C dX11_init_391 rfl ?_
  refine v_iconst (-1) C dX11_init_392 (by decide) ?_
  refine v_iastore 4 C rfl (at_c rfl) dX11_init_393 ?_
  refine v_iinc 5 C dX11_init_394 rfl (by decide) (Nat.le_of_ble_eq_true rfl) rfl ?_
  refine v_goto 381 C dX11_init_397 (by decide) ?_
  refine v_iload_n C dX11_init_381 rfl ?_
  refine v_bipush 7 C dX11_init_382 (by decide) ?_
  refine v_icmp_ge 400 C dX11_init_384 (by decide) (fun h384 => absurd h384 (by decide)) (fun _ => ?_)
  refine v_aload_n C dX11_init_387 rfl ?_
  refine v_getR 85 C fl_RX11_125 rfl rfl rfl dX11_init_388 ?_
  refine v_iload_n C dX11_init_391 rfl ?_
  refine v_iconst (-1) C dX11_init_392 (by decide) ?_
  refine v_iastore 5 C rfl (at_c rfl) dX11_init_393 ?_
  refine v_iinc 6 C dX11_init_394 rfl (by decide) (Nat.le_of_ble_eq_true rfl) rfl ?_
  refine v_goto 381 C dX11_init_397 (by decide) ?_
  refine v_iload_n C dX11_init_381 rfl ?_
  refine v_bipush 7 C dX11_init_382 (by decide) ?_
  refine v_icmp_ge 400 C dX11_init_384 (by decide) (fun h384 => absurd h384 (by decide)) (fun _ => ?_)
  refine v_aload_n C dX11_init_387 rfl ?_
  refine v_getR 85 C fl_RX11_125 rfl rfl rfl dX11_init_388 ?_
  refine v_iload_n C dX11_init_391 rfl ?_
  refine v_iconst (-1) C dX11_init_392 (by decide) ?_
  refine v_iastore 6 C rfl (at_c rfl) dX11_init_393 ?_
  refine v_iinc 7 C dX11_init_394 rfl (by decide) (Nat.le_of_ble_eq_true rfl) rfl ?_
  refine v_goto 381 C dX11_init_397 (by decide) ?_
  refine v_iload_n C dX11_init_381 rfl ?_
  refine v_bipush 7 C dX11_init_382 (by decide) ?_
  refine v_icmp_ge 400 C dX11_init_384 (by decide) (fun _ => ?_) (fun h384 => absurd h384 (by decide))
  exact v_vret C dX11_init_400 m_ret_rf
