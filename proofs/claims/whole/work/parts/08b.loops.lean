set_option maxHeartbeats 4000000 in
set_option maxRecDepth 100000 in
theorem c_J7_fill_53178 {lnc : Launch} {E : En} {sh : List Sh} {I : IM} {J : JM} {R : RM} {a n : Nat} {v : Int32} (hsh : sh[a]? = some (.inr (0, n))) (hn : n < 2 ^ 31) : Ct lnc E yJ7_fill_53178 cJ7_fill_53178 4 none 0 0 [.ref a, .int v] sh I J R 0 0 (m_ret none sh (fillF I a n v) J R) := by
  refine Ct.of (lv := [some (.ref a), some (.int v), none, none]) (by decide) (Nat.le_of_ble_eq_true rfl) rfl (fun X hX C => ?_)
  have loop : ∀ (fuel : Nat) (m k : Nat), m < fuel → k + m = n → V E X (m_Z E X (m_ret none sh (fillF I a n v) J R) 0 0) 0 0 sh (fillF I a k v) J R 5 [some (.ref a), some (.int v), some (.int (nI k)), some (.int (nI n))] [] := by
    intro fuel
    induction fuel with
    | zero => intro m k hfuel; exact absurd hfuel (Nat.not_lt_zero _)
    | succ fuel ih =>
      intro m k hfuel hk
      refine v_iload_n C dJ7_fill_53178_5 rfl ?_
      refine v_iload_n C dJ7_fill_53178_6 rfl ?_
      refine v_icmp_ge 20 C dJ7_fill_53178_7 (by decide) (fun h7 => ?_) (fun h7 => ?_)
      · have hkl := nI_le_of h7 (by omega) hn
        obtain rfl : m = 0 := by omega
        obtain rfl : k = n := by omega
        exact v_vret C dJ7_fill_53178_20 ⟨rfl, rfl, rfl, rfl, rfl⟩
      · have hkl := nI_lt_of h7 (by omega)
        obtain ⟨m, rfl⟩ : ∃ m2, m = m2 + 1 := ⟨m - 1, by omega⟩
        refine v_aload_n C dJ7_fill_53178_10 rfl ?_
        refine v_iload_n C dJ7_fill_53178_11 rfl ?_
        refine v_iload_n C dJ7_fill_53178_12 rfl ?_
        refine v_iastore k C hsh (at_nI (by omega) hn) dJ7_fill_53178_13 ?_
        refine v_eqI fillF_s ?_
        refine v_iinc (nI (k + 1)) C dJ7_fill_53178_14 rfl (nI_1 k) (Nat.le_of_ble_eq_true rfl) rfl ?_
        refine v_goto 5 C dJ7_fill_53178_17 (by decide) ?_
        exact ih m (k + 1) (lt_fuel hfuel) (by omega)
  refine v_iconst 0 C dJ7_fill_53178_0 (by decide) ?_
  refine v_istore_n C dJ7_fill_53178_1 (Nat.le_of_ble_eq_true rfl) rfl ?_
  refine v_aload_n C dJ7_fill_53178_2 rfl ?_
  refine v_alen C hsh (by decide) dJ7_fill_53178_3 ?_
  refine v_istore_n C dJ7_fill_53178_4 (Nat.le_of_ble_eq_true rfl) rfl ?_
  refine v_eqI (fillF_0 (a := a) (v := v)).symm ?_
  exact loop (n + 1) n 0 (Nat.lt_succ_self n) (by omega)

set_option maxHeartbeats 4000000 in
set_option maxRecDepth 100000 in
theorem c_X2_beginYear {lnc : Launch} {E : En} {sh : List Sh} {I : IM} {J : JM} {R : RM} (hs : St sh R) : Ct lnc E yX2_beginYear cX2_beginYear 1 none 1 23 [.ref 1] sh I J R 0 0 (m_ret none sh (fillF I 3 5 0) J R) := by
  refine Ct.of (lv := [some (.ref 1)]) (by decide) (Nat.le_of_ble_eq_true rfl) rfl (fun X hX C => ?_)
  refine v_aload_n C dX2_beginYear_0 rfl ?_
  refine v_getR 3 C fl_RX2_15 rfl (hs.1 1 _ rfl) (hs.2 1 1 3 rfl) dX2_beginYear_1 ?_
  refine v_iconst 0 C dX2_beginYear_4 (by decide) ?_
  refine v_callSv C (c_J7_fill_53178 (hs.1 3 _ rfl) (by decide)) mt_J7_fill_53178 lk_RX2_38 rfl rfl rfl rfl rfl dX2_beginYear_5 ?_
  exact v_vret C dX2_beginYear_8 ⟨rfl, rfl, rfl, rfl, rfl⟩

set_option maxHeartbeats 4000000 in
set_option maxRecDepth 100000 in
theorem c_X1_firstWith {lnc : Launch} {E : En} {sh : List Sh} {I : IM} {J : JM} {R : RM} {n : Nat} {h : Int32} (hs : St sh R) (hn : I 14 2 = nI n) (hl : n ≤ 8) : Ct lnc E yX1_firstWith cX1_firstWith 3 (some .int) 1 22 [.ref 14, .int h] sh I J R 0 0 (m_ret (some (.int (fwF (I 15) (I 16) h n 0))) sh I J R) := by
  refine Ct.of (lv := [some (.ref 14), some (.int h), none]) (by decide) (Nat.le_of_ble_eq_true rfl) rfl (fun X hX C => ?_)
  have loop : ∀ (fuel : Nat) (m k : Nat), m < fuel → k + m = n → fwF (I 15) (I 16) h m k = fwF (I 15) (I 16) h n 0 → V E X (m_Z E X (m_ret (some (.int (fwF (I 15) (I 16) h n 0))) sh I J R) 0 0) 0 0 sh I J R 2 [some (.ref 14), some (.int h), some (.int (nI k))] [] := by
    intro fuel
    induction fuel with
    | zero => intro m k hfuel; exact absurd hfuel (Nat.not_lt_zero _)
    | succ fuel ih =>
      intro m k hfuel hk hf
      refine v_iload_n C dX1_firstWith_2 rfl ?_
      refine v_aload_n C dX1_firstWith_3 rfl ?_
      refine v_getI C fl_RX1_24 rfl (hs.1 14 _ rfl) dX1_firstWith_4 ?_
      rw [hn]
      refine v_icmp_ge 37 C dX1_firstWith_7 (by decide) (fun h7 => ?_) (fun h7 => ?_)
      · have hkl := nI_le_of h7 (by omega) (by omega)
        obtain rfl : m = 0 := by omega
        refine v_iconst (-1) C dX1_firstWith_37 (by decide) ?_
        exact v_iret C dX1_firstWith_38 ⟨by rw [← hf]; rfl, rfl, rfl, rfl, rfl⟩
      · have hkn := nI_lt_of h7 (by omega)
        obtain ⟨m, rfl⟩ : ∃ m2, m = m2 + 1 := ⟨m - 1, by omega⟩
        have hkl : k < 8 := by omega
        refine v_iload_n C dX1_firstWith_10 rfl ?_
        refine v_aload_n C dX1_firstWith_11 rfl ?_
        refine v_getR 15 C fl_RX1_9 rfl (hs.1 14 _ rfl) (hs.2 14 0 15 rfl) dX1_firstWith_12 ?_
        refine v_iload_n C dX1_firstWith_15 rfl ?_
        refine v_iaload k C (hs.1 15 _ rfl) (at_e rfl hkl (by decide)) dX1_firstWith_16 ?_
        refine v_aload_n C dX1_firstWith_17 rfl ?_
        refine v_getR 16 C fl_RX1_15 rfl (hs.1 14 _ rfl) (hs.2 14 1 16 rfl) dX1_firstWith_18 ?_
        refine v_iload_n C dX1_firstWith_21 rfl ?_
        refine v_iaload k C (hs.1 16 _ rfl) (at_e rfl hkl (by decide)) dX1_firstWith_22 ?_
        refine v_callNSi C c_X10_within mt_X10_within lk_RX1_27 rfl rfl rfl rfl rfl dX1_firstWith_23 ?_
        refine v_if_eq 31 C dX1_firstWith_26 (by decide) (fun h26 => ?_) (fun h26 => ?_)
        · refine v_iinc (nI (k + 1)) C dX1_firstWith_31 rfl (nI_1 k) (Nat.le_of_ble_eq_true rfl) rfl ?_
          refine v_goto 2 C dX1_firstWith_34 (by decide) ?_
          exact ih m (k + 1) (lt_fuel hfuel) (by omega) (by rw [← hf]; simp [fwF, h26])
        · refine v_iload_n C dX1_firstWith_29 rfl ?_
          exact v_iret C dX1_firstWith_30 ⟨by rw [← hf]; simp [fwF, h26], rfl, rfl, rfl, rfl⟩
  refine v_iconst 0 C dX1_firstWith_0 (by decide) ?_
  refine v_istore_n C dX1_firstWith_1 (Nat.le_of_ble_eq_true rfl) rfl ?_
  exact loop (n + 1) n 0 (Nat.lt_succ_self n) (by omega) rfl

set_option maxHeartbeats 4000000 in
set_option maxRecDepth 100000 in
theorem c_X3_coldOf {lnc : Launch} {E : En} {sh : List Sh} {I : IM} {J : JM} {R : RM} {n : Nat} {h : Int32} (hs : St sh R) (hn : I 4 3 = nI n) (hl : n ≤ 20) : Ct lnc E yX3_coldOf cX3_coldOf 4 (some .int) 1 22 [.ref 4, .int h] sh I J R 0 0 (m_ret (some (.int (coF (I 5) (I 6) (I 7) h n 0 0))) sh I J R) := by
  refine Ct.of (lv := [some (.ref 4), some (.int h), none, none]) (by decide) (Nat.le_of_ble_eq_true rfl) rfl (fun X hX C => ?_)
  have loop : ∀ (fuel : Nat) (m k : Nat) (c : Int32), m < fuel → k + m = n → coF (I 5) (I 6) (I 7) h m k c = coF (I 5) (I 6) (I 7) h n 0 0 → V E X (m_Z E X (m_ret (some (.int (coF (I 5) (I 6) (I 7) h n 0 0))) sh I J R) 0 0) 0 0 sh I J R 4 [some (.ref 4), some (.int h), some (.int c), some (.int (nI k))] [] := by
    intro fuel
    induction fuel with
    | zero => intro m k c hfuel; exact absurd hfuel (Nat.not_lt_zero _)
    | succ fuel ih =>
      intro m k c hfuel hk hf
      refine v_iload_n C dX3_coldOf_4 rfl ?_
      refine v_aload_n C dX3_coldOf_5 rfl ?_
      refine v_getI C fl_RX3_21 rfl (hs.1 4 _ rfl) dX3_coldOf_6 ?_
      rw [hn]
      refine v_icmp_ge 46 C dX3_coldOf_9 (by decide) (fun h9 => ?_) (fun h9 => ?_)
      · have hkl := nI_le_of h9 (by omega) (by omega)
        obtain rfl : m = 0 := by omega
        refine v_iload_n C dX3_coldOf_46 rfl ?_
        exact v_iret C dX3_coldOf_47 ⟨by rw [← hf]; rfl, rfl, rfl, rfl, rfl⟩
      · have hkn := nI_lt_of h9 (by omega)
        obtain ⟨m, rfl⟩ : ∃ m2, m = m2 + 1 := ⟨m - 1, by omega⟩
        have hkl : k < 20 := by omega
        refine v_iload_n C dX3_coldOf_12 rfl ?_
        refine v_aload_n C dX3_coldOf_13 rfl ?_
        refine v_getR 5 C fl_RX3_11 rfl (hs.1 4 _ rfl) (hs.2 4 0 5 rfl) dX3_coldOf_14 ?_
        refine v_iload_n C dX3_coldOf_17 rfl ?_
        refine v_iaload k C (hs.1 5 _ rfl) (at_e rfl hkl (by decide)) dX3_coldOf_18 ?_
        refine v_aload_n C dX3_coldOf_19 rfl ?_
        refine v_getR 6 C fl_RX3_15 rfl (hs.1 4 _ rfl) (hs.2 4 1 6 rfl) dX3_coldOf_20 ?_
        refine v_iload_n C dX3_coldOf_23 rfl ?_
        refine v_iaload k C (hs.1 6 _ rfl) (at_e rfl hkl (by decide)) dX3_coldOf_24 ?_
        refine v_callNSi C c_X10_within mt_X10_within lk_RX3_41 rfl rfl rfl rfl rfl dX3_coldOf_25 ?_
        refine v_if_eq 40 C dX3_coldOf_28 (by decide) (fun h28 => ?_) (fun h28 => ?_)
        · refine v_iinc (nI (k + 1)) C dX3_coldOf_40 rfl (nI_1 k) (Nat.le_of_ble_eq_true rfl) rfl ?_
          refine v_goto 4 C dX3_coldOf_43 (by decide) ?_
          exact ih m (k + 1) _ (lt_fuel hfuel) (by omega) (by rw [← hf]; simp [coF, h28])
        · refine v_iload_n C dX3_coldOf_31 rfl ?_
          refine v_aload_n C dX3_coldOf_32 rfl ?_
          refine v_getR 7 C fl_RX3_18 rfl (hs.1 4 _ rfl) (hs.2 4 2 7 rfl) dX3_coldOf_33 ?_
          refine v_iload_n C dX3_coldOf_36 rfl ?_
          refine v_iaload k C (hs.1 7 _ rfl) (at_e rfl hkl (by decide)) dX3_coldOf_37 ?_
          refine v_iadd C dX3_coldOf_38 ?_
          refine v_istore_n C dX3_coldOf_39 (Nat.le_of_ble_eq_true rfl) rfl ?_
          refine v_iinc (nI (k + 1)) C dX3_coldOf_40 rfl (nI_1 k) (Nat.le_of_ble_eq_true rfl) rfl ?_
          refine v_goto 4 C dX3_coldOf_43 (by decide) ?_
          exact ih m (k + 1) _ (lt_fuel hfuel) (by omega) (by rw [← hf]; simp [coF, h28])
  refine v_iconst 0 C dX3_coldOf_0 (by decide) ?_
  refine v_istore_n C dX3_coldOf_1 (Nat.le_of_ble_eq_true rfl) rfl ?_
  refine v_iconst 0 C dX3_coldOf_2 (by decide) ?_
  refine v_istore_n C dX3_coldOf_3 (Nat.le_of_ble_eq_true rfl) rfl ?_
  exact loop (n + 1) n 0 0 (Nat.lt_succ_self n) (by omega) rfl

def burnH (h b c : Int32) : Int32 := mx 0 (mn 2000 (h + 30 * b - h / 20 - c))

set_option maxHeartbeats 4000000 in
set_option maxRecDepth 100000 in
theorem c_X3_burn {lnc : Launch} {E : En} {sh : List Sh} {I : IM} {J : JM} {R : RM} {n : Nat} {b h : Int32} (hs : St sh R) (hn : I 4 3 = nI n) (hl : n ≤ 20) : Ct lnc E yX3_burn cX3_burn 4 none 2 45 [.ref 4, .int b, .int h] sh I J R 0 0 (m_ret none sh (iu I 4 5 (burnH (I 4 5) b (coF (I 5) (I 6) (I 7) h n 0 0))) J R) := by
  refine Ct.of (lv := [some (.ref 4), some (.int b), some (.int h), none]) (by decide) (Nat.le_of_ble_eq_true rfl) rfl (fun X hX C => ?_)
  refine v_aload_n C dX3_burn_0 rfl ?_
  refine v_getI C fl_RX3_25 rfl (hs.1 4 _ rfl) dX3_burn_1 ?_
  refine v_bipush 30 C dX3_burn_4 (by decide) ?_
  refine v_iload_n C dX3_burn_6 rfl ?_
  refine v_imul C dX3_burn_7 ?_
  refine v_iadd C dX3_burn_8 ?_
  refine v_aload_n C dX3_burn_9 rfl ?_
  refine v_getI C fl_RX3_25 rfl (hs.1 4 _ rfl) dX3_burn_10 ?_
  refine v_bipush 20 C dX3_burn_13 (by decide) ?_
  refine v_idiv C dX3_burn_15 (by decide) ?_
  refine v_isub C dX3_burn_16 ?_
  refine v_aload_n C dX3_burn_17 rfl ?_
  refine v_iload_n C dX3_burn_18 rfl ?_
  refine v_callVi C (c_X3_coldOf hs hn hl) mt_X3_coldOf lk_RX3_28 rfl rfl (hs.1 4 _ rfl) rfl rfl rfl rfl rfl dX3_burn_19 ?_
  refine v_isub C dX3_burn_22 ?_
  refine v_istore_n C dX3_burn_23 (Nat.le_of_ble_eq_true rfl) rfl ?_
  refine v_aload_n C dX3_burn_24 rfl ?_
  refine v_iconst 0 C dX3_burn_25 (by decide) ?_
  refine v_sipush 2000 C dX3_burn_26 (by decide) ?_
  refine v_iload_n C dX3_burn_29 rfl ?_
  refine v_mmin C lk_RX3_32 math_min_st ini_Math0 math_min_code rfl (Nat.le_of_ble_eq_true rfl) (Nat.le_of_ble_eq_true rfl) (Nat.le_of_ble_eq_true rfl) (Nat.le_of_ble_eq_true rfl) dX3_burn_30 ?_
  refine v_mmax C lk_RX3_38 math_max_st ini_Math0 math_max_code rfl (Nat.le_of_ble_eq_true rfl) (Nat.le_of_ble_eq_true rfl) (Nat.le_of_ble_eq_true rfl) (Nat.le_of_ble_eq_true rfl) dX3_burn_33 ?_
  refine v_putI C fl_RX3_25 rfl (hs.1 4 _ rfl) dX3_burn_36 ?_
  exact v_vret C dX3_burn_39 ⟨rfl, rfl, rfl, rfl, rfl⟩

set_option maxHeartbeats 4000000 in
set_option maxRecDepth 100000 in
theorem c_X10_storedOf {lnc : Launch} {E : En} {sh : List Sh} {I : IM} {J : JM} {R : RM} {n : Nat} {g q : Int32} (pa : Nat → Nat) (hs : St sh R) (hn : I 0 14 = nI n) (hl : n ≤ 1000) (hp : ∀ k, k < n → R 38 k = some (pa k) ∧ sh[pa k]? = some (.inl 6)) : Ct lnc E yX10_storedOf cX10_storedOf 6 (some .int) 0 0 [.ref 0, .int g, .int q] sh I J R 0 0 (m_ret (some (.int (cntF (stc I pa g q) n 0 0))) sh I J R) := by
  refine Ct.of (lv := [some (.ref 0), some (.int g), some (.int q), none, none, none]) (by decide) (Nat.le_of_ble_eq_true rfl) rfl (fun X hX C => ?_)
  have loop : ∀ (fuel : Nat) (m k : Nat) (c : Int32), m < fuel → k + m = n → cntF (stc I pa g q) m k c = cntF (stc I pa g q) n 0 0 → V E X (m_Z E X (m_ret (some (.int (cntF (stc I pa g q) n 0 0))) sh I J R) 0 0) 0 0 sh I J R 5 [some (.ref 0), some (.int g), some (.int q), some (.int c), some (.int (nI k)), none] [] := by
    intro fuel
    induction fuel with
    | zero => intro m k c hfuel; exact absurd hfuel (Nat.not_lt_zero _)
    | succ fuel ih =>
      intro m k c hfuel hk hf
      refine v_iload C dX10_storedOf_5 rfl ?_
      refine v_aload_n C dX10_storedOf_7 rfl ?_
      refine v_getI C fl_RX10_220 rfl (hs.1 0 _ rfl) dX10_storedOf_8 ?_
      rw [hn]
      refine v_icmp_ge 64 C dX10_storedOf_11 (by decide) (fun h11 => ?_) (fun h11 => ?_)
      · have hkl := nI_le_of h11 (by omega) (by omega)
        obtain rfl : m = 0 := by omega
        refine v_iload_n C dX10_storedOf_64 rfl ?_
        exact v_iret C dX10_storedOf_65 ⟨by rw [← hf]; rfl, rfl, rfl, rfl, rfl⟩
      · have hkn := nI_lt_of h11 (by omega)
        obtain ⟨m, rfl⟩ : ∃ m2, m = m2 + 1 := ⟨m - 1, by omega⟩
        refine v_aload_n C dX10_storedOf_14 rfl ?_
        refine v_getR 38 C fl_RX10_70 rfl (hs.1 0 _ rfl) (hs.2 0 8 38 rfl) dX10_storedOf_15 ?_
        refine v_iload C dX10_storedOf_18 rfl ?_
        refine v_aaload k C (hs.1 38 _ rfl) (cn := RX6) ⟨rfl, by decide, by decide⟩ (at_nI (by omega) (by decide)) (hp k hkn).1 dX10_storedOf_20 ?_
        refine v_astore C dX10_storedOf_21 (Nat.le_of_ble_eq_true rfl) rfl ?_
        refine v_aload C dX10_storedOf_23 rfl ?_
        refine v_ifnull C dX10_storedOf_25 ?_
        refine v_aload C dX10_storedOf_28 rfl ?_
        refine v_getI C fl_RX10_289 rfl (hp k hkn).2 dX10_storedOf_30 ?_
        refine v_iconst 1 C dX10_storedOf_33 (by decide) ?_
        refine v_icmp_ne 58 C dX10_storedOf_34 (by decide) (fun h34 => ?_) (fun h34 => ?_)
        · refine v_iinc (nI (k + 1)) C dX10_storedOf_58 rfl (nI_1 k) (Nat.le_of_ble_eq_true rfl) rfl ?_
          refine v_goto 5 C dX10_storedOf_61 (by decide) ?_
          refine v_drop 5 ?_
          exact ih m (k + 1) _ (lt_fuel hfuel) (by omega) (by rw [← hf]; simp [cntF, stc, *])
        · refine v_aload C dX10_storedOf_37 rfl ?_
          refine v_getI C fl_RX10_300 rfl (hp k hkn).2 dX10_storedOf_39 ?_
          refine v_iload_n C dX10_storedOf_42 rfl ?_
          refine v_icmp_ne 58 C dX10_storedOf_43 (by decide) (fun h43 => ?_) (fun h43 => ?_)
          · refine v_iinc (nI (k + 1)) C dX10_storedOf_58 rfl (nI_1 k) (Nat.le_of_ble_eq_true rfl) rfl ?_
            refine v_goto 5 C dX10_storedOf_61 (by decide) ?_
            refine v_drop 5 ?_
            exact ih m (k + 1) _ (lt_fuel hfuel) (by omega) (by rw [← hf]; simp [cntF, stc, *])
          · refine v_aload C dX10_storedOf_46 rfl ?_
            refine v_getI C fl_RX10_303 rfl (hp k hkn).2 dX10_storedOf_48 ?_
            refine v_iload_n C dX10_storedOf_51 rfl ?_
            refine v_icmp_ne 58 C dX10_storedOf_52 (by decide) (fun h52 => ?_) (fun h52 => ?_)
            · refine v_iinc (nI (k + 1)) C dX10_storedOf_58 rfl (nI_1 k) (Nat.le_of_ble_eq_true rfl) rfl ?_
              refine v_goto 5 C dX10_storedOf_61 (by decide) ?_
              refine v_drop 5 ?_
              exact ih m (k + 1) _ (lt_fuel hfuel) (by omega) (by rw [← hf]; simp [cntF, stc, *])
            · refine v_iinc (c + 1) C dX10_storedOf_55 rfl rfl (Nat.le_of_ble_eq_true rfl) rfl ?_
              refine v_iinc (nI (k + 1)) C dX10_storedOf_58 rfl (nI_1 k) (Nat.le_of_ble_eq_true rfl) rfl ?_
              refine v_goto 5 C dX10_storedOf_61 (by decide) ?_
              refine v_drop 5 ?_
              exact ih m (k + 1) _ (lt_fuel hfuel) (by omega) (by rw [← hf]; simp [cntF, stc, *])
  refine v_iconst 0 C dX10_storedOf_0 (by decide) ?_
  refine v_istore_n C dX10_storedOf_1 (Nat.le_of_ble_eq_true rfl) rfl ?_
  refine v_iconst 0 C dX10_storedOf_2 (by decide) ?_
  refine v_istore C dX10_storedOf_3 (Nat.le_of_ble_eq_true rfl) rfl ?_
  exact loop (n + 1) n 0 0 (Nat.lt_succ_self n) (by omega) rfl

def payT (I : IM) (p : Int32 → Nat → Bool) (n : Nat) (pr : Nat → Int32) : Int32 := 0 + cntF (p 0) n 0 0 * pr 0 / 100 + cntF (p 1) n 0 0 * pr 1 / 100 + cntF (p 2) n 0 0 * pr 2 / 100 + cntF (p 3) n 0 0 * pr 3 / 100 + cntF (p 4) n 0 0 * pr 4 / 100
def payR (I : IM) (pa : Nat → Nat) (n : Nat) (g : Int32) : Int32 := if wI g 0 3 = 0 then -1 else payT I (stc I pa g) n (fun k => I (25 + k) 3)
def payRm (I : IM) (n : Nat) (g : Int32) : Int32 := if wI g 0 3 = 0 then -1 else payT I (stm I g) n (fun k => I 61 k)

set_option maxHeartbeats 4000000 in
set_option maxRecDepth 100000 in
theorem c_X10_pay {lnc : Launch} {E : En} {sh : List Sh} {I : IM} {J : JM} {R : RM} {n : Nat} {g : Int32} (pa : Nat → Nat) (hs : St sh R) (hn : I 0 14 = nI n) (hl : n ≤ 1000) (hp : ∀ k, k < n → R 38 k = some (pa k) ∧ sh[pa k]? = some (.inl 6)) : Ct lnc E yX10_pay cX10_pay 4 (some .int) 1 25 [.ref 0, .int g] sh I J R 0 0 (m_ret (some (.int (payR I pa n g))) sh I J R) := by
  refine Ct.of (lv := [some (.ref 0), some (.int g), none, none]) (by decide) (Nat.le_of_ble_eq_true rfl) rfl (fun X hX C => ?_)
  refine v_iload_n C dX10_pay_0 rfl ?_
  refine v_iconst 0 C dX10_pay_1 (by decide) ?_
  refine v_iconst 3 C dX10_pay_2 (by decide) ?_
  refine v_callSi C c_X10_within mt_X10_within lk_RX10_88 rfl rfl rfl rfl rfl dX10_pay_3 ?_
  refine v_if_ne 11 C dX10_pay_6 (by decide) (fun h6 => ?_) (fun h6 => ?_)
  · refine v_iconst 0 C dX10_pay_11 (by decide) ?_
    refine v_istore_n C dX10_pay_12 (Nat.le_of_ble_eq_true rfl) rfl ?_
    refine v_iconst 0 C dX10_pay_13 (by decide) ?_
    refine v_istore_n C dX10_pay_14 (Nat.le_of_ble_eq_true rfl) rfl ?_
    refine v_iload_n C dX10_pay_15 rfl ?_
    refine v_iconst 5 C dX10_pay_16 (by decide) ?_
    refine v_icmp_ge 48 C dX10_pay_17 (by decide) (fun h17 => absurd h17 (by decide)) (fun _ => ?_)
    refine v_iload_n C dX10_pay_20 rfl ?_
    refine v_aload_n C dX10_pay_21 rfl ?_
    refine v_iload_n C dX10_pay_22 rfl ?_
    refine v_iload_n C dX10_pay_23 rfl ?_
    refine v_callVi C (c_X10_storedOf pa hs hn hl hp) mt_X10_storedOf lk_RX10_224 rfl rfl (hs.1 0 _ rfl) rfl rfl rfl rfl rfl dX10_pay_24 ?_
    refine v_aload_n C dX10_pay_27 rfl ?_
    refine v_getR 24 C fl_RX10_46 rfl (hs.1 0 _ rfl) (hs.2 0 5 24 rfl) dX10_pay_28 ?_
    refine v_iload_n C dX10_pay_31 rfl ?_
    refine v_aaload 0 C (hs.1 24 _ rfl) (cn := RX4) ⟨rfl, by decide, by decide⟩ (at_c rfl) (hs.2 24 0 25 rfl) dX10_pay_32 ?_
    refine v_getI C fl_RX10_185 rfl (hs.1 25 _ rfl) dX10_pay_33 ?_
    refine v_imul C dX10_pay_36 ?_
    refine v_bipush 100 C dX10_pay_37 (by decide) ?_
    refine v_idiv C dX10_pay_39 (by decide) ?_
    refine v_iadd C dX10_pay_40 ?_
    refine v_istore_n C dX10_pay_41 (Nat.le_of_ble_eq_true rfl) rfl ?_
    refine v_iinc 1 C dX10_pay_42 rfl (by decide) (Nat.le_of_ble_eq_true rfl) rfl ?_
    refine v_goto 15 C dX10_pay_45 (by decide) ?_
    refine v_iload_n C dX10_pay_15 rfl ?_
    refine v_iconst 5 C dX10_pay_16 (by decide) ?_
    refine v_icmp_ge 48 C dX10_pay_17 (by decide) (fun h17 => absurd h17 (by decide)) (fun _ => ?_)
    refine v_iload_n C dX10_pay_20 rfl ?_
    refine v_aload_n C dX10_pay_21 rfl ?_
    refine v_iload_n C dX10_pay_22 rfl ?_
    refine v_iload_n C dX10_pay_23 rfl ?_
    refine v_callVi C (c_X10_storedOf pa hs hn hl hp) mt_X10_storedOf lk_RX10_224 rfl rfl (hs.1 0 _ rfl) rfl rfl rfl rfl rfl dX10_pay_24 ?_
    refine v_aload_n C dX10_pay_27 rfl ?_
    refine v_getR 24 C fl_RX10_46 rfl (hs.1 0 _ rfl) (hs.2 0 5 24 rfl) dX10_pay_28 ?_
    refine v_iload_n C dX10_pay_31 rfl ?_
    refine v_aaload 1 C (hs.1 24 _ rfl) (cn := RX4) ⟨rfl, by decide, by decide⟩ (at_c rfl) (hs.2 24 1 26 rfl) dX10_pay_32 ?_
    refine v_getI C fl_RX10_185 rfl (hs.1 26 _ rfl) dX10_pay_33 ?_
    refine v_imul C dX10_pay_36 ?_
    refine v_bipush 100 C dX10_pay_37 (by decide) ?_
    refine v_idiv C dX10_pay_39 (by decide) ?_
    refine v_iadd C dX10_pay_40 ?_
    refine v_istore_n C dX10_pay_41 (Nat.le_of_ble_eq_true rfl) rfl ?_
    refine v_iinc 2 C dX10_pay_42 rfl (by decide) (Nat.le_of_ble_eq_true rfl) rfl ?_
    refine v_goto 15 C dX10_pay_45 (by decide) ?_
    refine v_iload_n C dX10_pay_15 rfl ?_
    refine v_iconst 5 C dX10_pay_16 (by decide) ?_
    refine v_icmp_ge 48 C dX10_pay_17 (by decide) (fun h17 => absurd h17 (by decide)) (fun _ => ?_)
    refine v_iload_n C dX10_pay_20 rfl ?_
    refine v_aload_n C dX10_pay_21 rfl ?_
    refine v_iload_n C dX10_pay_22 rfl ?_
    refine v_iload_n C dX10_pay_23 rfl ?_
    refine v_callVi C (c_X10_storedOf pa hs hn hl hp) mt_X10_storedOf lk_RX10_224 rfl rfl (hs.1 0 _ rfl) rfl rfl rfl rfl rfl dX10_pay_24 ?_
    refine v_aload_n C dX10_pay_27 rfl ?_
    refine v_getR 24 C fl_RX10_46 rfl (hs.1 0 _ rfl) (hs.2 0 5 24 rfl) dX10_pay_28 ?_
    refine v_iload_n C dX10_pay_31 rfl ?_
    refine v_aaload 2 C (hs.1 24 _ rfl) (cn := RX4) ⟨rfl, by decide, by decide⟩ (at_c rfl) (hs.2 24 2 27 rfl) dX10_pay_32 ?_
    refine v_getI C fl_RX10_185 rfl (hs.1 27 _ rfl) dX10_pay_33 ?_
    refine v_imul C dX10_pay_36 ?_
    refine v_bipush 100 C dX10_pay_37 (by decide) ?_
    refine v_idiv C dX10_pay_39 (by decide) ?_
    refine v_iadd C dX10_pay_40 ?_
    refine v_istore_n C dX10_pay_41 (Nat.le_of_ble_eq_true rfl) rfl ?_
    refine v_iinc 3 C dX10_pay_42 rfl (by decide) (Nat.le_of_ble_eq_true rfl) rfl ?_
    refine v_goto 15 C dX10_pay_45 (by decide) ?_
    refine v_iload_n C dX10_pay_15 rfl ?_
    refine v_iconst 5 C dX10_pay_16 (by decide) ?_
    refine v_icmp_ge 48 C dX10_pay_17 (by decide) (fun h17 => absurd h17 (by decide)) (fun _ => ?_)
    refine v_iload_n C dX10_pay_20 rfl ?_
    refine v_aload_n C dX10_pay_21 rfl ?_
    refine v_iload_n C dX10_pay_22 rfl ?_
    refine v_iload_n C dX10_pay_23 rfl ?_
    refine v_callVi C (c_X10_storedOf pa hs hn hl hp) mt_X10_storedOf lk_RX10_224 rfl rfl (hs.1 0 _ rfl) rfl rfl rfl rfl rfl dX10_pay_24 ?_
    refine v_aload_n C dX10_pay_27 rfl ?_
    refine v_getR 24 C fl_RX10_46 rfl (hs.1 0 _ rfl) (hs.2 0 5 24 rfl) dX10_pay_28 ?_
    refine v_iload_n C dX10_pay_31 rfl ?_
    refine v_aaload 3 C (hs.1 24 _ rfl) (cn := RX4) ⟨rfl, by decide, by decide⟩ (at_c rfl) (hs.2 24 3 28 rfl) dX10_pay_32 ?_
    refine v_getI C fl_RX10_185 rfl (hs.1 28 _ rfl) dX10_pay_33 ?_
    refine v_imul C dX10_pay_36 ?_
    refine v_bipush 100 C dX10_pay_37 (by decide) ?_
    refine v_idiv C dX10_pay_39 (by decide) ?_
    refine v_iadd C dX10_pay_40 ?_
    refine v_istore_n C dX10_pay_41 (Nat.le_of_ble_eq_true rfl) rfl ?_
    refine v_iinc 4 C dX10_pay_42 rfl (by decide) (Nat.le_of_ble_eq_true rfl) rfl ?_
    refine v_goto 15 C dX10_pay_45 (by decide) ?_
    refine v_iload_n C dX10_pay_15 rfl ?_
    refine v_iconst 5 C dX10_pay_16 (by decide) ?_
    refine v_icmp_ge 48 C dX10_pay_17 (by decide) (fun h17 => absurd h17 (by decide)) (fun _ => ?_)
    refine v_iload_n C dX10_pay_20 rfl ?_
    refine v_aload_n C dX10_pay_21 rfl ?_
    refine v_iload_n C dX10_pay_22 rfl ?_
    refine v_iload_n C dX10_pay_23 rfl ?_
    refine v_callVi C (c_X10_storedOf pa hs hn hl hp) mt_X10_storedOf lk_RX10_224 rfl rfl (hs.1 0 _ rfl) rfl rfl rfl rfl rfl dX10_pay_24 ?_
    refine v_aload_n C dX10_pay_27 rfl ?_
    refine v_getR 24 C fl_RX10_46 rfl (hs.1 0 _ rfl) (hs.2 0 5 24 rfl) dX10_pay_28 ?_
    refine v_iload_n C dX10_pay_31 rfl ?_
    refine v_aaload 4 C (hs.1 24 _ rfl) (cn := RX4) ⟨rfl, by decide, by decide⟩ (at_c rfl) (hs.2 24 4 29 rfl) dX10_pay_32 ?_
    refine v_getI C fl_RX10_185 rfl (hs.1 29 _ rfl) dX10_pay_33 ?_
    refine v_imul C dX10_pay_36 ?_
    refine v_bipush 100 C dX10_pay_37 (by decide) ?_
    refine v_idiv C dX10_pay_39 (by decide) ?_
    refine v_iadd C dX10_pay_40 ?_
    refine v_istore_n C dX10_pay_41 (Nat.le_of_ble_eq_true rfl) rfl ?_
    refine v_iinc 5 C dX10_pay_42 rfl (by decide) (Nat.le_of_ble_eq_true rfl) rfl ?_
    refine v_goto 15 C dX10_pay_45 (by decide) ?_
    refine v_iload_n C dX10_pay_15 rfl ?_
    refine v_iconst 5 C dX10_pay_16 (by decide) ?_
    refine v_icmp_ge 48 C dX10_pay_17 (by decide) (fun _ => ?_) (fun h17 => absurd h17 (by decide))
    refine v_iload_n C dX10_pay_48 rfl ?_
    exact v_iret C dX10_pay_49 ⟨by unfold payR; rw [if_neg h6]; rfl, rfl, rfl, rfl, rfl⟩
  · refine v_iconst (-1) C dX10_pay_9 (by decide) ?_
    exact v_iret C dX10_pay_10 ⟨by simp [payR, *], rfl, rfl, rfl, rfl⟩

set_option maxHeartbeats 4000000 in
set_option maxRecDepth 100000 in
theorem c_X11_pay {lnc : Launch} {E : En} {sh : List Sh} {I : IM} {J : JM} {R : RM} {n : Nat} {g : Int32} (hs : St sh R) (hn : I 47 27 = nI n) (hl : n ≤ 1000) : Ct lnc E yX11_pay cX11_pay 6 (some .int) 1 22 [.ref 47, .int g] sh I J R 0 0 (m_ret (some (.int (payRm I n g))) sh I J R) := by
  refine Ct.of (lv := [some (.ref 47), some (.int g), none, none, none, none]) (by decide) (Nat.le_of_ble_eq_true rfl) rfl (fun X hX C => ?_)
  have loop : ∀ (fuel : Nat) (m k : Nat) (c : Int32) (qn : Nat) (sm q : Int32), m < fuel → k + m = n → (V E X (m_Z E X (m_ret (some (.int (payRm I n g))) sh I J R) 0 0) 0 0 sh I J R 84 [some (.ref 47), some (.int g), some (.int sm), some (.int q), some (.int (cntF (stm I g q) m k c)), none] []) → V E X (m_Z E X (m_ret (some (.int (payRm I n g))) sh I J R) 0 0) 0 0 sh I J R 26 [some (.ref 47), some (.int g), some (.int sm), some (.int q), some (.int c), some (.int (nI k))] [] := by
    intro fuel
    induction fuel with
    | zero => intro m k c qn sm q hfuel; exact absurd hfuel (Nat.not_lt_zero _)
    | succ fuel ih =>
      intro m k c qn sm q hfuel hk hx
      refine v_iload C dX11_pay_26 rfl ?_
      refine v_aload_n C dX11_pay_28 rfl ?_
      refine v_getI C fl_RX11_223 rfl (hs.1 47 _ rfl) dX11_pay_29 ?_
      rw [hn]
      refine v_icmp_ge 84 C dX11_pay_32 (by decide) (fun h32 => ?_) (fun h32 => ?_)
      · have hkl := nI_le_of h32 (by omega) (by omega)
        obtain rfl : m = 0 := by omega
        exact v_drop 5 hx
      · have hkn := nI_lt_of h32 (by omega)
        obtain ⟨m, rfl⟩ : ∃ m2, m = m2 + 1 := ⟨m - 1, by omega⟩
        refine v_iload C dX11_pay_35 rfl ?_
        refine v_aload_n C dX11_pay_37 rfl ?_
        refine v_getR 68 C fl_RX11_71 rfl (hs.1 47 _ rfl) (hs.2 47 29 68 rfl) dX11_pay_38 ?_
        refine v_iload C dX11_pay_41 rfl ?_
        refine v_iaload k C (hs.1 68 _ rfl) (at_nI (by omega) (by decide)) dX11_pay_43 ?_
        refine v_iload_n C dX11_pay_44 rfl ?_
        refine v_icmp_ne 74 C dX11_pay_45 (by decide) (fun h45 => ?_) (fun h45 => ?_)
        · refine v_iconst 0 C dX11_pay_74 (by decide) ?_
          refine v_iadd C dX11_pay_75 ?_
          refine v_istore C dX11_pay_76 (Nat.le_of_ble_eq_true rfl) rfl ?_
          refine v_iinc (nI (k + 1)) C dX11_pay_78 rfl (nI_1 k) (Nat.le_of_ble_eq_true rfl) rfl ?_
          refine v_goto 26 C dX11_pay_81 (by decide) ?_
          exact ih m (k + 1) _ qn sm q (lt_fuel hfuel) (by omega) (by first | exact hx | (simp only [cntF, stm, *] at hx; simpa using hx))
        · refine v_aload_n C dX11_pay_48 rfl ?_
          refine v_getR 67 C fl_RX11_68 rfl (hs.1 47 _ rfl) (hs.2 47 28 67 rfl) dX11_pay_49 ?_
          refine v_iload C dX11_pay_52 rfl ?_
          refine v_iaload k C (hs.1 67 _ rfl) (at_nI (by omega) (by decide)) dX11_pay_54 ?_
          refine v_iload_n C dX11_pay_55 rfl ?_
          refine v_icmp_ne 74 C dX11_pay_56 (by decide) (fun h56 => ?_) (fun h56 => ?_)
          · refine v_iconst 0 C dX11_pay_74 (by decide) ?_
            refine v_iadd C dX11_pay_75 ?_
            refine v_istore C dX11_pay_76 (Nat.le_of_ble_eq_true rfl) rfl ?_
            refine v_iinc (nI (k + 1)) C dX11_pay_78 rfl (nI_1 k) (Nat.le_of_ble_eq_true rfl) rfl ?_
            refine v_goto 26 C dX11_pay_81 (by decide) ?_
            exact ih m (k + 1) _ qn sm q (lt_fuel hfuel) (by omega) (by first | exact hx | (simp only [cntF, stm, *] at hx; simpa using hx))
          · refine v_aload_n C dX11_pay_59 rfl ?_
            refine v_getR 71 C fl_RX11_80 rfl (hs.1 47 _ rfl) (hs.2 47 32 71 rfl) dX11_pay_60 ?_
            refine v_iload C dX11_pay_63 rfl ?_
            refine v_iaload k C (hs.1 71 _ rfl) (at_nI (by omega) (by decide)) dX11_pay_65 ?_
            refine v_iconst 1 C dX11_pay_66 (by decide) ?_
            refine v_icmp_ne 74 C dX11_pay_67 (by decide) (fun h67 => ?_) (fun h67 => ?_)
            · refine v_iconst 0 C dX11_pay_74 (by decide) ?_
              refine v_iadd C dX11_pay_75 ?_
              refine v_istore C dX11_pay_76 (Nat.le_of_ble_eq_true rfl) rfl ?_
              refine v_iinc (nI (k + 1)) C dX11_pay_78 rfl (nI_1 k) (Nat.le_of_ble_eq_true rfl) rfl ?_
              refine v_goto 26 C dX11_pay_81 (by decide) ?_
              exact ih m (k + 1) _ qn sm q (lt_fuel hfuel) (by omega) (by first | exact hx | (simp only [cntF, stm, *] at hx; simpa using hx))
            · refine v_iconst 1 C dX11_pay_70 (by decide) ?_
              refine v_goto 75 C dX11_pay_71 (by decide) ?_
              refine v_iadd C dX11_pay_75 ?_
              refine v_istore C dX11_pay_76 (Nat.le_of_ble_eq_true rfl) rfl ?_
              refine v_iinc (nI (k + 1)) C dX11_pay_78 rfl (nI_1 k) (Nat.le_of_ble_eq_true rfl) rfl ?_
              refine v_goto 26 C dX11_pay_81 (by decide) ?_
              exact ih m (k + 1) _ qn sm q (lt_fuel hfuel) (by omega) (by first | exact hx | (simp only [cntF, stm, *] at hx; simpa using hx))
  refine v_iload_n C dX11_pay_0 rfl ?_
  refine v_iconst 0 C dX11_pay_1 (by decide) ?_
  refine v_iconst 3 C dX11_pay_2 (by decide) ?_
  refine v_callSi C c_X11_in mt_X11_in lk_RX11_140 rfl rfl rfl rfl rfl dX11_pay_3 ?_
  refine v_if_ne 11 C dX11_pay_6 (by decide) (fun h6 => ?_) (fun h6 => ?_)
  · refine v_iconst 0 C dX11_pay_11 (by decide) ?_
    refine v_istore_n C dX11_pay_12 (Nat.le_of_ble_eq_true rfl) rfl ?_
    refine v_iconst 0 C dX11_pay_13 (by decide) ?_
    refine v_istore_n C dX11_pay_14 (Nat.le_of_ble_eq_true rfl) rfl ?_
    refine v_iload_n C dX11_pay_15 rfl ?_
    refine v_iconst 5 C dX11_pay_16 (by decide) ?_
    refine v_icmp_ge 105 C dX11_pay_17 (by decide) (fun h17 => absurd h17 (by decide)) (fun _ => ?_)
    refine v_iconst 0 C dX11_pay_20 (by decide) ?_
    refine v_istore C dX11_pay_21 (Nat.le_of_ble_eq_true rfl) rfl ?_
    refine v_iconst 0 C dX11_pay_23 (by decide) ?_
    refine v_istore C dX11_pay_24 (Nat.le_of_ble_eq_true rfl) rfl ?_
    refine loop (n + 1) n 0 0 0 _ _ (Nat.lt_succ_self n) (by omega) ?_
    refine v_iload_n C dX11_pay_84 rfl ?_
    refine v_iload C dX11_pay_85 rfl ?_
    refine v_aload_n C dX11_pay_87 rfl ?_
    refine v_getR 61 C fl_RX11_50 rfl (hs.1 47 _ rfl) (hs.2 47 21 61 rfl) dX11_pay_88 ?_
    refine v_iload_n C dX11_pay_91 rfl ?_
    refine v_iaload 0 C (hs.1 61 _ rfl) (at_c rfl) dX11_pay_92 ?_
    refine v_imul C dX11_pay_93 ?_
    refine v_bipush 100 C dX11_pay_94 (by decide) ?_
    refine v_idiv C dX11_pay_96 (by decide) ?_
    refine v_iadd C dX11_pay_97 ?_
    refine v_istore_n C dX11_pay_98 (Nat.le_of_ble_eq_true rfl) rfl ?_
    refine v_iinc 1 C dX11_pay_99 rfl (by decide) (Nat.le_of_ble_eq_true rfl) rfl ?_
    refine v_goto 15 C dX11_pay_102 (by decide) ?_
    refine v_iload_n C dX11_pay_15 rfl ?_
    refine v_iconst 5 C dX11_pay_16 (by decide) ?_
    refine v_icmp_ge 105 C dX11_pay_17 (by decide) (fun h17 => absurd h17 (by decide)) (fun _ => ?_)
    refine v_iconst 0 C dX11_pay_20 (by decide) ?_
    refine v_istore C dX11_pay_21 (Nat.le_of_ble_eq_true rfl) rfl ?_
    refine v_iconst 0 C dX11_pay_23 (by decide) ?_
    refine v_istore C dX11_pay_24 (Nat.le_of_ble_eq_true rfl) rfl ?_
    refine loop (n + 1) n 0 0 0 _ _ (Nat.lt_succ_self n) (by omega) ?_
    refine v_iload_n C dX11_pay_84 rfl ?_
    refine v_iload C dX11_pay_85 rfl ?_
    refine v_aload_n C dX11_pay_87 rfl ?_
    refine v_getR 61 C fl_RX11_50 rfl (hs.1 47 _ rfl) (hs.2 47 21 61 rfl) dX11_pay_88 ?_
    refine v_iload_n C dX11_pay_91 rfl ?_
    refine v_iaload 1 C (hs.1 61 _ rfl) (at_c rfl) dX11_pay_92 ?_
    refine v_imul C dX11_pay_93 ?_
    refine v_bipush 100 C dX11_pay_94 (by decide) ?_
    refine v_idiv C dX11_pay_96 (by decide) ?_
    refine v_iadd C dX11_pay_97 ?_
    refine v_istore_n C dX11_pay_98 (Nat.le_of_ble_eq_true rfl) rfl ?_
    refine v_iinc 2 C dX11_pay_99 rfl (by decide) (Nat.le_of_ble_eq_true rfl) rfl ?_
    refine v_goto 15 C dX11_pay_102 (by decide) ?_
    refine v_iload_n C dX11_pay_15 rfl ?_
    refine v_iconst 5 C dX11_pay_16 (by decide) ?_
    refine v_icmp_ge 105 C dX11_pay_17 (by decide) (fun h17 => absurd h17 (by decide)) (fun _ => ?_)
    refine v_iconst 0 C dX11_pay_20 (by decide) ?_
    refine v_istore C dX11_pay_21 (Nat.le_of_ble_eq_true rfl) rfl ?_
    refine v_iconst 0 C dX11_pay_23 (by decide) ?_
    refine v_istore C dX11_pay_24 (Nat.le_of_ble_eq_true rfl) rfl ?_
    refine loop (n + 1) n 0 0 0 _ _ (Nat.lt_succ_self n) (by omega) ?_
    refine v_iload_n C dX11_pay_84 rfl ?_
    refine v_iload C dX11_pay_85 rfl ?_
    refine v_aload_n C dX11_pay_87 rfl ?_
    refine v_getR 61 C fl_RX11_50 rfl (hs.1 47 _ rfl) (hs.2 47 21 61 rfl) dX11_pay_88 ?_
    refine v_iload_n C dX11_pay_91 rfl ?_
    refine v_iaload 2 C (hs.1 61 _ rfl) (at_c rfl) dX11_pay_92 ?_
    refine v_imul C dX11_pay_93 ?_
    refine v_bipush 100 C dX11_pay_94 (by decide) ?_
    refine v_idiv C dX11_pay_96 (by decide) ?_
    refine v_iadd C dX11_pay_97 ?_
    refine v_istore_n C dX11_pay_98 (Nat.le_of_ble_eq_true rfl) rfl ?_
    refine v_iinc 3 C dX11_pay_99 rfl (by decide) (Nat.le_of_ble_eq_true rfl) rfl ?_
    refine v_goto 15 C dX11_pay_102 (by decide) ?_
    refine v_iload_n C dX11_pay_15 rfl ?_
    refine v_iconst 5 C dX11_pay_16 (by decide) ?_
    refine v_icmp_ge 105 C dX11_pay_17 (by decide) (fun h17 => absurd h17 (by decide)) (fun _ => ?_)
    refine v_iconst 0 C dX11_pay_20 (by decide) ?_
    refine v_istore C dX11_pay_21 (Nat.le_of_ble_eq_true rfl) rfl ?_
    refine v_iconst 0 C dX11_pay_23 (by decide) ?_
    refine v_istore C dX11_pay_24 (Nat.le_of_ble_eq_true rfl) rfl ?_
    refine loop (n + 1) n 0 0 0 _ _ (Nat.lt_succ_self n) (by omega) ?_
    refine v_iload_n C dX11_pay_84 rfl ?_
    refine v_iload C dX11_pay_85 rfl ?_
    refine v_aload_n C dX11_pay_87 rfl ?_
    refine v_getR 61 C fl_RX11_50 rfl (hs.1 47 _ rfl) (hs.2 47 21 61 rfl) dX11_pay_88 ?_
    refine v_iload_n C dX11_pay_91 rfl ?_
    refine v_iaload 3 C (hs.1 61 _ rfl) (at_c rfl) dX11_pay_92 ?_
    refine v_imul C dX11_pay_93 ?_
    refine v_bipush 100 C dX11_pay_94 (by decide) ?_
    refine v_idiv C dX11_pay_96 (by decide) ?_
    refine v_iadd C dX11_pay_97 ?_
    refine v_istore_n C dX11_pay_98 (Nat.le_of_ble_eq_true rfl) rfl ?_
    refine v_iinc 4 C dX11_pay_99 rfl (by decide) (Nat.le_of_ble_eq_true rfl) rfl ?_
    refine v_goto 15 C dX11_pay_102 (by decide) ?_
    refine v_iload_n C dX11_pay_15 rfl ?_
    refine v_iconst 5 C dX11_pay_16 (by decide) ?_
    refine v_icmp_ge 105 C dX11_pay_17 (by decide) (fun h17 => absurd h17 (by decide)) (fun _ => ?_)
    refine v_iconst 0 C dX11_pay_20 (by decide) ?_
    refine v_istore C dX11_pay_21 (Nat.le_of_ble_eq_true rfl) rfl ?_
    refine v_iconst 0 C dX11_pay_23 (by decide) ?_
    refine v_istore C dX11_pay_24 (Nat.le_of_ble_eq_true rfl) rfl ?_
    refine loop (n + 1) n 0 0 0 _ _ (Nat.lt_succ_self n) (by omega) ?_
    refine v_iload_n C dX11_pay_84 rfl ?_
    refine v_iload C dX11_pay_85 rfl ?_
    refine v_aload_n C dX11_pay_87 rfl ?_
    refine v_getR 61 C fl_RX11_50 rfl (hs.1 47 _ rfl) (hs.2 47 21 61 rfl) dX11_pay_88 ?_
    refine v_iload_n C dX11_pay_91 rfl ?_
    refine v_iaload 4 C (hs.1 61 _ rfl) (at_c rfl) dX11_pay_92 ?_
    refine v_imul C dX11_pay_93 ?_
    refine v_bipush 100 C dX11_pay_94 (by decide) ?_
    refine v_idiv C dX11_pay_96 (by decide) ?_
    refine v_iadd C dX11_pay_97 ?_
    refine v_istore_n C dX11_pay_98 (Nat.le_of_ble_eq_true rfl) rfl ?_
    refine v_iinc 5 C dX11_pay_99 rfl (by decide) (Nat.le_of_ble_eq_true rfl) rfl ?_
    refine v_goto 15 C dX11_pay_102 (by decide) ?_
    refine v_iload_n C dX11_pay_15 rfl ?_
    refine v_iconst 5 C dX11_pay_16 (by decide) ?_
    refine v_icmp_ge 105 C dX11_pay_17 (by decide) (fun _ => ?_) (fun h17 => absurd h17 (by decide))
    refine v_iload_n C dX11_pay_105 rfl ?_
    exact v_iret C dX11_pay_106 ⟨by unfold payRm; rw [if_neg h6]; rfl, rfl, rfl, rfl, rfl⟩
  · refine v_iconst (-1) C dX11_pay_9 (by decide) ?_
    exact v_iret C dX11_pay_10 ⟨by simp [payRm, *], rfl, rfl, rfl, rfl⟩
