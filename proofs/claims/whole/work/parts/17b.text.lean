set_option maxHeartbeats 4000000 in
set_option maxRecDepth 100000 in
theorem c_X9_skipBlanks {lnc : Launch} {E : En} {sh : List Sh} {I : IM} {J : JM} {R : RM} {n i : Nat} (hs : St sh R) (hn : I 8 5 = nI n) (hl : n ≤ 200) (hi : I 8 7 = nI i) (hin : i ≤ n) : Ct lnc E yX9_skipBlanks cX9_skipBlanks 2 none 0 0 [.ref 8] sh I J R 0 0 (m_ret none sh (iu I 8 7 (nI (scan pbl (I 9) n (n - i) i))) J R) := by
  refine Ct.of (lv := [some (.ref 8), none]) (by decide) (Nat.le_of_ble_eq_true rfl) rfl (fun X hX C => ?_)
  have loop : ∀ (fuel : Nat) (f k : Nat), f < fuel → k + f = n → scan pbl (I 9) n f k = scan pbl (I 9) n (n - i) i → V E X (m_Z E X (m_ret none sh (iu I 8 7 (nI (scan pbl (I 9) n (n - i) i))) J R) 0 0) 0 0 sh (iu I 8 7 (nI k)) J R 5 [some (.ref 8), some (.int (nI k))] [] := by
    intro fuel
    induction fuel with
    | zero => intro f k hfuel; exact absurd hfuel (Nat.not_lt_zero _)
    | succ fuel ih =>
      intro f k hfuel hk hf
      refine v_iload_n C dX9_skipBlanks_5 rfl ?_
      refine v_aload_n C dX9_skipBlanks_6 rfl ?_
      refine v_getI C fl_RX9_27 rfl (hs.1 8 _ rfl) dX9_skipBlanks_7 ?_
      refine v_eqi (show _ = nI n from hn) ?_
      refine v_icmp_ge 37 C dX9_skipBlanks_10 (by decide) (fun h10 => ?_) (fun h10 => ?_)
      · exact v_vret C dX9_skipBlanks_37 (by rw [← hf]; first | (have hkn := nI_le_of h10 (by omega) (by omega); obtain rfl : f = 0 := (by omega); exact m_ret_rf) | (have hb : ¬ I 9 k = 32 := hb; have e : scan pbl (I 9) n (f + 1) k = k := (by simp [scan, pbl, hb]); rw [e]; exact m_ret_rf))
      · have hkn := nI_lt_of h10 (by omega)
        obtain ⟨f, rfl⟩ : ∃ f2, f = f2 + 1 := ⟨f - 1, by omega⟩
        refine v_aload_n C dX9_skipBlanks_13 rfl ?_
        refine v_getR 9 C fl_RX9_11 rfl (hs.1 8 _ rfl) (hs.2 8 0 9 rfl) dX9_skipBlanks_14 ?_
        refine v_iload_n C dX9_skipBlanks_17 rfl ?_
        refine v_iaload k C (hs.1 9 _ rfl) (at_nI (by omega) (by decide)) dX9_skipBlanks_18 ?_
        refine v_bipush 32 C dX9_skipBlanks_19 (by decide) ?_
        refine v_icmp_ne 37 C dX9_skipBlanks_21 (by decide) (fun hb => ?_) (fun hb => ?_)
        · exact v_vret C dX9_skipBlanks_37 (by rw [← hf]; first | (have hkn := nI_le_of h10 (by omega) (by omega); obtain rfl : f = 0 := (by omega); exact m_ret_rf) | (have hb : ¬ I 9 k = 32 := hb; have e : scan pbl (I 9) n (f + 1) k = k := (by simp [scan, pbl, hb]); rw [e]; exact m_ret_rf))
        · have hb : I 9 k = 32 := hb
          refine v_aload_n C dX9_skipBlanks_24 rfl ?_
          refine v_iload_n C dX9_skipBlanks_25 rfl ?_
          refine v_iconst 1 C dX9_skipBlanks_26 (by decide) ?_
          refine v_iadd C dX9_skipBlanks_27 ?_
          refine v_putI C fl_RX9_31 rfl (hs.1 8 _ rfl) dX9_skipBlanks_28 ?_
          refine v_eqI (show _ = iu I 8 7 (nI (k + 1)) by rw [iu_iu, nI_1]) ?_
          refine v_iinc (nI (k + 1)) C dX9_skipBlanks_31 rfl (nI_1 k) (Nat.le_of_ble_eq_true rfl) rfl ?_
          refine v_goto 5 C dX9_skipBlanks_34 (by decide) ?_
          exact ih f (k + 1) (lt_fuel hfuel) (by omega) (by rw [← hf]; simp [scan, pbl, hkn, show I 9 k = 32 from hb])
  refine v_aload_n C dX9_skipBlanks_0 rfl ?_
  refine v_getI C fl_RX9_31 rfl (hs.1 8 _ rfl) dX9_skipBlanks_1 ?_
  refine v_istore_n C dX9_skipBlanks_4 (Nat.le_of_ble_eq_true rfl) rfl ?_
  refine v_lv (show _ = [some (.ref 8), some (.int (I 8 7))] from rfl) ?_
  rw [hi]
  refine v_eqI (show I = iu I 8 7 (nI i) by rw [← hi, iu_self]) ?_
  exact loop (n - i + 1) (n - i) i (Nat.lt_succ_self _) (by omega) rfl

set_option maxHeartbeats 4000000 in
set_option maxRecDepth 100000 in
theorem c_X9_skipLetters {lnc : Launch} {E : En} {sh : List Sh} {I : IM} {J : JM} {R : RM} {n i : Nat} (hs : St sh R) (hn : I 8 5 = nI n) (hl : n ≤ 200) (hi : I 8 7 = nI i) (hin : i ≤ n) : Ct lnc E yX9_skipLetters cX9_skipLetters 2 none 1 22 [.ref 8] sh I J R 0 0 (m_ret none sh (iu I 8 7 (nI (scan plet (I 9) n (n - i) i))) J R) := by
  refine Ct.of (lv := [some (.ref 8), none]) (by decide) (Nat.le_of_ble_eq_true rfl) rfl (fun X hX C => ?_)
  have loop : ∀ (fuel : Nat) (f k : Nat), f < fuel → k + f = n → scan plet (I 9) n f k = scan plet (I 9) n (n - i) i → V E X (m_Z E X (m_ret none sh (iu I 8 7 (nI (scan plet (I 9) n (n - i) i))) J R) 0 0) 0 0 sh (iu I 8 7 (nI k)) J R 5 [some (.ref 8), some (.int (nI k))] [] := by
    intro fuel
    induction fuel with
    | zero => intro f k hfuel; exact absurd hfuel (Nat.not_lt_zero _)
    | succ fuel ih =>
      intro f k hfuel hk hf
      refine v_iload_n C dX9_skipLetters_5 rfl ?_
      refine v_aload_n C dX9_skipLetters_6 rfl ?_
      refine v_getI C fl_RX9_27 rfl (hs.1 8 _ rfl) dX9_skipLetters_7 ?_
      refine v_eqi (show _ = nI n from hn) ?_
      refine v_icmp_ge 42 C dX9_skipLetters_10 (by decide) (fun h10 => ?_) (fun h10 => ?_)
      · exact v_vret C dX9_skipLetters_42 (by rw [← hf]; first | (have hkn := nI_le_of h10 (by omega) (by omega); obtain rfl : f = 0 := (by omega); exact m_ret_rf) | (have hb : wI (I 9 k) 97 122 = 0 := hb; have e : scan plet (I 9) n (f + 1) k = k := (by simp [scan, plet, hb]); rw [e]; exact m_ret_rf))
      · have hkn := nI_lt_of h10 (by omega)
        obtain ⟨f, rfl⟩ : ∃ f2, f = f2 + 1 := ⟨f - 1, by omega⟩
        refine v_aload_n C dX9_skipLetters_13 rfl ?_
        refine v_getR 9 C fl_RX9_11 rfl (hs.1 8 _ rfl) (hs.2 8 0 9 rfl) dX9_skipLetters_14 ?_
        refine v_iload_n C dX9_skipLetters_17 rfl ?_
        refine v_iaload k C (hs.1 9 _ rfl) (at_nI (by omega) (by decide)) dX9_skipLetters_18 ?_
        refine v_bipush 97 C dX9_skipLetters_19 (by decide) ?_
        refine v_bipush 122 C dX9_skipLetters_21 (by decide) ?_
        refine v_callNSi C c_X10_within mt_X10_within lk_RX9_65 rfl rfl rfl rfl rfl dX9_skipLetters_23 ?_
        refine v_if_eq 42 C dX9_skipLetters_26 (by decide) (fun hb => ?_) (fun hb => ?_)
        · exact v_vret C dX9_skipLetters_42 (by rw [← hf]; first | (have hkn := nI_le_of h10 (by omega) (by omega); obtain rfl : f = 0 := (by omega); exact m_ret_rf) | (have hb : wI (I 9 k) 97 122 = 0 := hb; have e : scan plet (I 9) n (f + 1) k = k := (by simp [scan, plet, hb]); rw [e]; exact m_ret_rf))
        · have hb : ¬ wI (I 9 k) 97 122 = 0 := hb
          refine v_aload_n C dX9_skipLetters_29 rfl ?_
          refine v_iload_n C dX9_skipLetters_30 rfl ?_
          refine v_iconst 1 C dX9_skipLetters_31 (by decide) ?_
          refine v_iadd C dX9_skipLetters_32 ?_
          refine v_putI C fl_RX9_31 rfl (hs.1 8 _ rfl) dX9_skipLetters_33 ?_
          refine v_eqI (show _ = iu I 8 7 (nI (k + 1)) by rw [iu_iu, nI_1]) ?_
          refine v_iinc (nI (k + 1)) C dX9_skipLetters_36 rfl (nI_1 k) (Nat.le_of_ble_eq_true rfl) rfl ?_
          refine v_goto 5 C dX9_skipLetters_39 (by decide) ?_
          exact ih f (k + 1) (lt_fuel hfuel) (by omega) (by rw [← hf]; simp [scan, plet, hkn, show ¬ wI (I 9 k) 97 122 = 0 from hb])
  refine v_aload_n C dX9_skipLetters_0 rfl ?_
  refine v_getI C fl_RX9_31 rfl (hs.1 8 _ rfl) dX9_skipLetters_1 ?_
  refine v_istore_n C dX9_skipLetters_4 (Nat.le_of_ble_eq_true rfl) rfl ?_
  refine v_lv (show _ = [some (.ref 8), some (.int (I 8 7))] from rfl) ?_
  rw [hi]
  refine v_eqI (show I = iu I 8 7 (nI i) by rw [← hi, iu_self]) ?_
  exact loop (n - i + 1) (n - i) i (Nat.lt_succ_self _) (by omega) rfl

set_option maxHeartbeats 4000000 in
set_option maxRecDepth 100000 in
theorem c_X9_fail {lnc : Launch} {E : En} {sh : List Sh} {I : IM} {J : JM} {R : RM} {p w : Int32} (hs : St sh R) : Ct lnc E yX9_fail cX9_fail 3 (some .boolean) 0 0 [.ref 8, .int p, .int w] sh I J R 0 0 (m_ret (some (.int 0)) sh (failI I p w) J R) := by
  refine Ct.of (lv := [some (.ref 8), some (.int p), some (.int w)]) (by decide) (Nat.le_of_ble_eq_true rfl) rfl (fun X hX C => ?_)
  refine v_aload_n C dX9_fail_0 rfl ?_
  refine v_iconst 1 C dX9_fail_1 (by decide) ?_
  refine v_bipush 8 C dX9_fail_2 (by decide) ?_
  refine v_iload_n C dX9_fail_4 rfl ?_
  refine v_imul C dX9_fail_5 ?_
  refine v_iadd C dX9_fail_6 ?_
  refine v_iload_n C dX9_fail_7 rfl ?_
  refine v_iadd C dX9_fail_8 ?_
  refine v_putI C fl_RX9_37 rfl (hs.1 8 _ rfl) dX9_fail_9 ?_
  refine v_iconst 0 C dX9_fail_12 (by decide) ?_
  exact v_zret C (Or.inl rfl) dX9_fail_13 ⟨rfl, rfl, rfl, rfl, rfl⟩

set_option maxHeartbeats 4000000 in
set_option maxRecDepth 100000 in
theorem c_X9_keepSpan {lnc : Launch} {E : En} {sh : List Sh} {I : IM} {J : JM} {R : RM} {z : Nat} {a b c d : Int32} (hs : St sh R) (hz : I 8 6 = nI z) (hzl : z < 8) : Ct lnc E yX9_keepSpan cX9_keepSpan 5 none 0 0 [.ref 8, .int a, .int b, .int c, .int d] sh I J R 0 0 (m_ret none sh (keepI I z a b c d) J R) := by
  refine Ct.of (lv := [some (.ref 8), some (.int a), some (.int b), some (.int c), some (.int d)]) (by decide) (Nat.le_of_ble_eq_true rfl) rfl (fun X hX C => ?_)
  refine v_aload_n C dX9_keepSpan_0 rfl ?_
  refine v_getR 10 C fl_RX9_15 rfl (hs.1 8 _ rfl) (hs.2 8 1 10 rfl) dX9_keepSpan_1 ?_
  refine v_aload_n C dX9_keepSpan_4 rfl ?_
  refine v_getI C fl_RX9_34 rfl (hs.1 8 _ rfl) dX9_keepSpan_5 ?_
  refine v_iload_n C dX9_keepSpan_8 rfl ?_
  refine v_iastore z C (hs.1 10 _ rfl) (at_e (show I 8 6 = nI z from hz) hzl (by decide)) dX9_keepSpan_9 ?_
  refine v_aload_n C dX9_keepSpan_10 rfl ?_
  refine v_getR 11 C fl_RX9_18 rfl (hs.1 8 _ rfl) (hs.2 8 2 11 rfl) dX9_keepSpan_11 ?_
  refine v_aload_n C dX9_keepSpan_14 rfl ?_
  refine v_getI C fl_RX9_34 rfl (hs.1 8 _ rfl) dX9_keepSpan_15 ?_
  refine v_iload_n C dX9_keepSpan_18 rfl ?_
  refine v_iastore z C (hs.1 11 _ rfl) (at_e (show I 8 6 = nI z from hz) hzl (by decide)) dX9_keepSpan_19 ?_
  refine v_aload_n C dX9_keepSpan_20 rfl ?_
  refine v_getR 12 C fl_RX9_21 rfl (hs.1 8 _ rfl) (hs.2 8 3 12 rfl) dX9_keepSpan_21 ?_
  refine v_aload_n C dX9_keepSpan_24 rfl ?_
  refine v_getI C fl_RX9_34 rfl (hs.1 8 _ rfl) dX9_keepSpan_25 ?_
  refine v_iload_n C dX9_keepSpan_28 rfl ?_
  refine v_iastore z C (hs.1 12 _ rfl) (at_e (show I 8 6 = nI z from hz) hzl (by decide)) dX9_keepSpan_29 ?_
  refine v_aload_n C dX9_keepSpan_30 rfl ?_
  refine v_getR 13 C fl_RX9_24 rfl (hs.1 8 _ rfl) (hs.2 8 4 13 rfl) dX9_keepSpan_31 ?_
  refine v_aload_n C dX9_keepSpan_34 rfl ?_
  refine v_getI C fl_RX9_34 rfl (hs.1 8 _ rfl) dX9_keepSpan_35 ?_
  refine v_iload C dX9_keepSpan_38 rfl ?_
  refine v_iastore z C (hs.1 13 _ rfl) (at_e (show I 8 6 = nI z from hz) hzl (by decide)) dX9_keepSpan_40 ?_
  refine v_aload_n C dX9_keepSpan_41 rfl ?_
  refine v_dupr C dX9_keepSpan_42 ?_
  refine v_getI C fl_RX9_34 rfl (hs.1 8 _ rfl) dX9_keepSpan_43 ?_
  refine v_iconst 1 C dX9_keepSpan_46 (by decide) ?_
  refine v_iadd C dX9_keepSpan_47 ?_
  refine v_putI C fl_RX9_34 rfl (hs.1 8 _ rfl) dX9_keepSpan_48 ?_
  exact v_vret C dX9_keepSpan_51 ⟨rfl, rfl, rfl, rfl, rfl⟩

set_option maxHeartbeats 4000000 in
set_option maxRecDepth 100000 in
theorem c_X9_sameBytes {lnc : Launch} {E : En} {sh : List Sh} {I : IM} {J : JM} {R : RM} {a b m0 : Nat} (hs : St sh R) (ha : a + m0 ≤ 200) (hb : b + m0 ≤ 200) : Ct lnc E yX9_sameBytes cX9_sameBytes 5 (some .boolean) 0 0 [.ref 8, .int (nI a), .int (nI b), .int (nI m0)] sh I J R 0 0 (m_ret (some (.int (sameF (I 9) a b m0 0))) sh I J R) := by
  refine Ct.of (lv := [some (.ref 8), some (.int (nI a)), some (.int (nI b)), some (.int (nI m0)), none]) (by decide) (Nat.le_of_ble_eq_true rfl) rfl (fun X hX C => ?_)
  have loop : ∀ (fuel : Nat) (m k : Nat), m < fuel → k + m = m0 → sameF (I 9) a b m k = sameF (I 9) a b m0 0 → V E X (m_Z E X (m_ret (some (.int (sameF (I 9) a b m0 0))) sh I J R) 0 0) 0 0 sh I J R 3 [some (.ref 8), some (.int (nI a)), some (.int (nI b)), some (.int (nI m0)), some (.int (nI k))] [] := by
    intro fuel
    induction fuel with
    | zero => intro m k hfuel; exact absurd hfuel (Nat.not_lt_zero _)
    | succ fuel ih =>
      intro m k hfuel hk hf
      refine v_iload C dX9_sameBytes_3 rfl ?_
      refine v_iload_n C dX9_sameBytes_5 rfl ?_
      refine v_icmp_ge 38 C dX9_sameBytes_6 (by decide) (fun h6 => ?_) (fun h6 => ?_)
      · have hkn := nI_le_of h6 (by omega) (by omega)
        obtain rfl : m = 0 := by omega
        refine v_iconst 1 C dX9_sameBytes_38 (by decide) ?_
        exact v_zret C (Or.inr rfl) dX9_sameBytes_39 ⟨by rw [← hf]; rfl, rfl, rfl, rfl, rfl⟩
      · have hkn := nI_lt_of h6 (by omega)
        obtain ⟨m, rfl⟩ : ∃ m2, m = m2 + 1 := ⟨m - 1, by omega⟩
        refine v_aload_n C dX9_sameBytes_9 rfl ?_
        refine v_getR 9 C fl_RX9_11 rfl (hs.1 8 _ rfl) (hs.2 8 0 9 rfl) dX9_sameBytes_10 ?_
        refine v_iload_n C dX9_sameBytes_13 rfl ?_
        refine v_iload C dX9_sameBytes_14 rfl ?_
        refine v_iadd C dX9_sameBytes_16 ?_
        refine v_iaload (a + k) C (hs.1 9 _ rfl) (at_e (nI_add a k) (by omega) (by decide)) dX9_sameBytes_17 ?_
        refine v_aload_n C dX9_sameBytes_18 rfl ?_
        refine v_getR 9 C fl_RX9_11 rfl (hs.1 8 _ rfl) (hs.2 8 0 9 rfl) dX9_sameBytes_19 ?_
        refine v_iload_n C dX9_sameBytes_22 rfl ?_
        refine v_iload C dX9_sameBytes_23 rfl ?_
        refine v_iadd C dX9_sameBytes_25 ?_
        refine v_iaload (b + k) C (hs.1 9 _ rfl) (at_e (nI_add b k) (by omega) (by decide)) dX9_sameBytes_26 ?_
        refine v_icmp_eq 32 C dX9_sameBytes_27 (by decide) (fun h27 => ?_) (fun h27 => ?_)
        · refine v_iinc (nI (k + 1)) C dX9_sameBytes_32 rfl (nI_1 k) (Nat.le_of_ble_eq_true rfl) rfl ?_
          refine v_goto 3 C dX9_sameBytes_35 (by decide) ?_
          exact ih m (k + 1) (lt_fuel hfuel) (by omega) (by rw [← hf]; simp [sameF, h27])
        · refine v_iconst 0 C dX9_sameBytes_30 (by decide) ?_
          exact v_zret C (Or.inl rfl) dX9_sameBytes_31 ⟨by rw [← hf]; simp [sameF, h27], rfl, rfl, rfl, rfl⟩
  refine v_iconst 0 C dX9_sameBytes_0 (by decide) ?_
  refine v_istore C dX9_sameBytes_1 (Nat.le_of_ble_eq_true rfl) rfl ?_
  exact loop (m0 + 1) m0 0 (Nat.lt_succ_self _) (by omega) rfl

set_option maxHeartbeats 4000000 in
set_option maxRecDepth 100000 in
theorem c_X9_isTold {lnc : Launch} {E : En} {sh : List Sh} {I : IM} {J : JM} {R : RM} {a b z : Nat} (hs : St sh R) (hz : I 8 6 = nI z) (hzl : z ≤ 8) (hab : a ≤ b) (hb : b ≤ 200) (hwk : ∀ k, k < z → I 11 k - I 10 k = nI b - nI a → I 10 k = nI (ix (I 10 k)) ∧ ix (I 10 k) + (b - a) ≤ 200) : Ct lnc E yX9_isTold cX9_isTold 4 (some .boolean) 1 24 [.ref 8, .int (nI a), .int (nI b)] sh I J R 0 0 (m_ret (some (.int (toldF (I 9) (I 10) (I 11) a b z 0))) sh I J R) := by
  refine Ct.of (lv := [some (.ref 8), some (.int (nI a)), some (.int (nI b)), none]) (by decide) (Nat.le_of_ble_eq_true rfl) rfl (fun X hX C => ?_)
  have loop : ∀ (fuel : Nat) (m k : Nat), m < fuel → k + m = z → toldF (I 9) (I 10) (I 11) a b m k = toldF (I 9) (I 10) (I 11) a b z 0 → V E X (m_Z E X (m_ret (some (.int (toldF (I 9) (I 10) (I 11) a b z 0))) sh I J R) 0 0) 0 0 sh I J R 2 [some (.ref 8), some (.int (nI a)), some (.int (nI b)), some (.int (nI k))] [] := by
    intro fuel
    induction fuel with
    | zero => intro m k hfuel; exact absurd hfuel (Nat.not_lt_zero _)
    | succ fuel ih =>
      intro m k hfuel hk hf
      refine v_iload_n C dX9_isTold_2 rfl ?_
      refine v_aload_n C dX9_isTold_3 rfl ?_
      refine v_getI C fl_RX9_34 rfl (hs.1 8 _ rfl) dX9_isTold_4 ?_
      rw [hz]
      refine v_icmp_ge 54 C dX9_isTold_7 (by decide) (fun h7 => ?_) (fun h7 => ?_)
      · have hkn := nI_le_of h7 (by omega) (by omega)
        obtain rfl : m = 0 := by omega
        refine v_iconst 0 C dX9_isTold_54 (by decide) ?_
        exact v_zret C (Or.inl rfl) dX9_isTold_55 ⟨by rw [← hf]; rfl, rfl, rfl, rfl, rfl⟩
      · have hkn := nI_lt_of h7 (by omega)
        obtain ⟨m, rfl⟩ : ∃ m2, m = m2 + 1 := ⟨m - 1, by omega⟩
        refine v_aload_n C dX9_isTold_10 rfl ?_
        refine v_getR 11 C fl_RX9_18 rfl (hs.1 8 _ rfl) (hs.2 8 2 11 rfl) dX9_isTold_11 ?_
        refine v_iload_n C dX9_isTold_14 rfl ?_
        refine v_iaload k C (hs.1 11 _ rfl) (at_nI (by omega) (by decide)) dX9_isTold_15 ?_
        refine v_aload_n C dX9_isTold_16 rfl ?_
        refine v_getR 10 C fl_RX9_15 rfl (hs.1 8 _ rfl) (hs.2 8 1 10 rfl) dX9_isTold_17 ?_
        refine v_iload_n C dX9_isTold_20 rfl ?_
        refine v_iaload k C (hs.1 10 _ rfl) (at_nI (by omega) (by decide)) dX9_isTold_21 ?_
        refine v_isub C dX9_isTold_22 ?_
        refine v_iload_n C dX9_isTold_23 rfl ?_
        refine v_iload_n C dX9_isTold_24 rfl ?_
        refine v_isub C dX9_isTold_25 ?_
        refine v_icmp_ne 48 C dX9_isTold_26 (by decide) (fun h26 => ?_) (fun h26 => ?_)
        · refine v_iinc (nI (k + 1)) C dX9_isTold_48 rfl (nI_1 k) (Nat.le_of_ble_eq_true rfl) rfl ?_
          refine v_goto 2 C dX9_isTold_51 (by decide) ?_
          exact ih m (k + 1) (lt_fuel hfuel) (by omega) (by rw [← hf]; first | simp [toldF, h26, h43] | simp [toldF, h26])
        · refine v_aload_n C dX9_isTold_29 rfl ?_
          refine v_aload_n C dX9_isTold_30 rfl ?_
          refine v_getR 10 C fl_RX9_15 rfl (hs.1 8 _ rfl) (hs.2 8 1 10 rfl) dX9_isTold_31 ?_
          refine v_iload_n C dX9_isTold_34 rfl ?_
          refine v_iaload k C (hs.1 10 _ rfl) (at_nI (by omega) (by decide)) dX9_isTold_35 ?_
          refine v_iload_n C dX9_isTold_36 rfl ?_
          refine v_iload_n C dX9_isTold_37 rfl ?_
          refine v_iload_n C dX9_isTold_38 rfl ?_
          refine v_isub C dX9_isTold_39 ?_
          refine v_eqi (show _ = nI (b - a) from pk_sub hab) ?_
          have hw := hwk k hkn h26
          refine v_callVi C (by have h := c_X9_sameBytes (lnc := xl X) (E := E) (I := I) (J := J) (a := ix (I 10 k)) (b := a) (m0 := b - a) hs hw.2 (by omega); rw [← hw.1] at h; exact h) mt_X9_sameBytes lk_RX9_75 rfl rfl (hs.1 8 _ rfl) rfl rfl rfl rfl rfl dX9_isTold_40 ?_
          refine v_if_eq 48 C dX9_isTold_43 (by decide) (fun h43 => ?_) (fun h43 => ?_)
          · refine v_iinc (nI (k + 1)) C dX9_isTold_48 rfl (nI_1 k) (Nat.le_of_ble_eq_true rfl) rfl ?_
            refine v_goto 2 C dX9_isTold_51 (by decide) ?_
            exact ih m (k + 1) (lt_fuel hfuel) (by omega) (by rw [← hf]; first | simp [toldF, h26, h43] | simp [toldF, h26])
          · refine v_iconst 1 C dX9_isTold_46 (by decide) ?_
            exact v_zret C (Or.inr rfl) dX9_isTold_47 ⟨by rw [← hf]; simp [toldF, h26, h43], rfl, rfl, rfl, rfl⟩
  refine v_iconst 0 C dX9_isTold_0 (by decide) ?_
  refine v_istore_n C dX9_isTold_1 (Nat.le_of_ble_eq_true rfl) rfl ?_
  exact loop (z + 1) z 0 (Nat.lt_succ_self _) (by omega) rfl

set_option maxHeartbeats 4000000 in
set_option maxRecDepth 100000 in
theorem c_X9_readNumber {lnc : Launch} {E : En} {sh : List Sh} {I : IM} {J : JM} {R : RM} {n i : Nat} (hs : St sh R) (hn : I 8 5 = nI n) (hl : n ≤ 200) (hi : I 8 7 = nI i) (hin : i ≤ n) : Ct lnc E yX9_readNumber cX9_readNumber 4 (some .int) 1 22 [.ref 8] sh I J R 0 0 (m_ret (some (.int (numR i (numC (I 9) n (n - i) i 0).1 (numC (I 9) n (n - i) i 0).2))) sh (numI I i (numC (I 9) n (n - i) i 0).1 (numC (I 9) n (n - i) i 0).2) J R) := by
  refine Ct.of (lv := [some (.ref 8), none, none, none]) (by decide) (Nat.le_of_ble_eq_true rfl) rfl (fun X hX C => ?_)
  have loop : ∀ (fuel : Nat) (f k : Nat) (v : Int32), f < fuel → k + f = n → numC (I 9) n f k v = (numC (I 9) n (n - i) i 0) → V E X (m_Z E X (m_ret (some (.int (numR i (numC (I 9) n (n - i) i 0).1 (numC (I 9) n (n - i) i 0).2))) sh (numI I i (numC (I 9) n (n - i) i 0).1 (numC (I 9) n (n - i) i 0).2) J R) 0 0) 0 0 sh (iu I 8 7 (nI k)) J R 12 [some (.ref 8), some (.int (nI i)), some (.int v), some (.int (nI k))] [] := by
    intro fuel
    induction fuel with
    | zero => intro f k v hfuel; exact absurd hfuel (Nat.not_lt_zero _)
    | succ fuel ih =>
      intro f k v hfuel hk hf
      refine v_iload_n C dX9_readNumber_12 rfl ?_
      refine v_aload_n C dX9_readNumber_13 rfl ?_
      refine v_getI C fl_RX9_27 rfl (hs.1 8 _ rfl) dX9_readNumber_14 ?_
      refine v_eqi (show _ = nI n from hn) ?_
      refine v_icmp_ge 69 C dX9_readNumber_17 (by decide) (fun h17 => ?_) (fun h17 => ?_)
      · have hf2 : (k, v) = (numC (I 9) n (n - i) i 0) := by first | (have hd : wI (I 9 k) 48 57 = 0 := h33; rw [← hf]; simp [numC, pdig, hd]; done) | (have hkn := nI_le_of h17 (by omega) (by omega); obtain rfl : f = 0 := (by omega); exact hf)
        refine v_aload_n C dX9_readNumber_69 rfl ?_
        refine v_getI C fl_RX9_31 rfl (hs.1 8 _ rfl) dX9_readNumber_70 ?_
        refine v_iload_n C dX9_readNumber_73 rfl ?_
        refine v_icmp_ne 86 C dX9_readNumber_74 (by decide) (fun h74 => ?_) (fun h74 => ?_)
        · refine v_aload_n C dX9_readNumber_86 rfl ?_
          refine v_getI C fl_RX9_31 rfl (hs.1 8 _ rfl) dX9_readNumber_87 ?_
          refine v_iload_n C dX9_readNumber_90 rfl ?_
          refine v_isub C dX9_readNumber_91 ?_
          refine v_iconst 3 C dX9_readNumber_92 (by decide) ?_
          refine v_icmp_gt 102 C dX9_readNumber_93 (by decide) (fun h93 => ?_) (fun h93 => ?_)
          · refine v_aload_n C dX9_readNumber_102 rfl ?_
            refine v_iload_n C dX9_readNumber_103 rfl ?_
            refine v_iconst 1 C dX9_readNumber_104 (by decide) ?_
            refine v_callVi C (c_X9_fail hs) mt_X9_fail lk_RX9_47 rfl rfl (hs.1 8 _ rfl) rfl rfl rfl rfl rfl dX9_readNumber_105 ?_
            refine v_popi C dX9_readNumber_108 ?_
            refine v_iconst (-1) C dX9_readNumber_109 (by decide) ?_
            exact v_iret C dX9_readNumber_110 (by rw [← hf2]; have h74 : ¬ nI k = nI i := h74; first | (have h93 : 3 < nI k - nI i := h93; exact ⟨by simp [numR, h74, h93], rfl, by simp [numI, h74, h93], rfl, rfl⟩) | (have h93 : ¬ 3 < nI k - nI i := h93; exact ⟨by simp [numR, h74, h93, h99], rfl, by simp [numI, h74, h93, h99], rfl, rfl⟩))
          · refine v_iload_n C dX9_readNumber_96 rfl ?_
            refine v_bipush 100 C dX9_readNumber_97 (by decide) ?_
            refine v_icmp_le 111 C dX9_readNumber_99 (by decide) (fun h99 => ?_) (fun h99 => ?_)
            · refine v_iload_n C dX9_readNumber_111 rfl ?_
              exact v_iret C dX9_readNumber_112 (by rw [← hf2]; have h74 : ¬ nI k = nI i := h74; have h93 : ¬ 3 < nI k - nI i := h93; exact ⟨by simp [numR, h74, h93, h99], rfl, by simp [numI, h74, h93, h99], rfl, rfl⟩)
            · refine v_aload_n C dX9_readNumber_102 rfl ?_
              refine v_iload_n C dX9_readNumber_103 rfl ?_
              refine v_iconst 1 C dX9_readNumber_104 (by decide) ?_
              refine v_callVi C (c_X9_fail hs) mt_X9_fail lk_RX9_47 rfl rfl (hs.1 8 _ rfl) rfl rfl rfl rfl rfl dX9_readNumber_105 ?_
              refine v_popi C dX9_readNumber_108 ?_
              refine v_iconst (-1) C dX9_readNumber_109 (by decide) ?_
              exact v_iret C dX9_readNumber_110 (by rw [← hf2]; have h74 : ¬ nI k = nI i := h74; first | (have h93 : 3 < nI k - nI i := h93; exact ⟨by simp [numR, h74, h93], rfl, by simp [numI, h74, h93], rfl, rfl⟩) | (have h93 : ¬ 3 < nI k - nI i := h93; exact ⟨by simp [numR, h74, h93, h99], rfl, by simp [numI, h74, h93, h99], rfl, rfl⟩))
        · refine v_aload_n C dX9_readNumber_77 rfl ?_
          refine v_iload_n C dX9_readNumber_78 rfl ?_
          refine v_iconst 0 C dX9_readNumber_79 (by decide) ?_
          refine v_callVi C (c_X9_fail hs) mt_X9_fail lk_RX9_47 rfl rfl (hs.1 8 _ rfl) rfl rfl rfl rfl rfl dX9_readNumber_80 ?_
          refine v_popi C dX9_readNumber_83 ?_
          refine v_iconst (-1) C dX9_readNumber_84 (by decide) ?_
          exact v_iret C dX9_readNumber_85 (by rw [← hf2]; have h74 : nI k = nI i := h74; exact ⟨by simp [numR, h74], rfl, by simp [numI, h74], rfl, rfl⟩)
      · have hkn := nI_lt_of h17 (by omega)
        obtain ⟨f, rfl⟩ : ∃ f2, f = f2 + 1 := ⟨f - 1, by omega⟩
        refine v_aload_n C dX9_readNumber_20 rfl ?_
        refine v_getR 9 C fl_RX9_11 rfl (hs.1 8 _ rfl) (hs.2 8 0 9 rfl) dX9_readNumber_21 ?_
        refine v_iload_n C dX9_readNumber_24 rfl ?_
        refine v_iaload k C (hs.1 9 _ rfl) (at_nI (by omega) (by decide)) dX9_readNumber_25 ?_
        refine v_bipush 48 C dX9_readNumber_26 (by decide) ?_
        refine v_bipush 57 C dX9_readNumber_28 (by decide) ?_
        refine v_callNSi C c_X10_within mt_X10_within lk_RX9_65 rfl rfl rfl rfl rfl dX9_readNumber_30 ?_
        refine v_if_eq 69 C dX9_readNumber_33 (by decide) (fun h33 => ?_) (fun h33 => ?_)
        · have hf2 : (k, v) = (numC (I 9) n (n - i) i 0) := by first | (have hd : wI (I 9 k) 48 57 = 0 := h33; rw [← hf]; simp [numC, pdig, hd]; done) | (have hkn := nI_le_of h17 (by omega) (by omega); obtain rfl : f = 0 := (by omega); exact hf)
          refine v_aload_n C dX9_readNumber_69 rfl ?_
          refine v_getI C fl_RX9_31 rfl (hs.1 8 _ rfl) dX9_readNumber_70 ?_
          refine v_iload_n C dX9_readNumber_73 rfl ?_
          refine v_icmp_ne 86 C dX9_readNumber_74 (by decide) (fun h74 => ?_) (fun h74 => ?_)
          · refine v_aload_n C dX9_readNumber_86 rfl ?_
            refine v_getI C fl_RX9_31 rfl (hs.1 8 _ rfl) dX9_readNumber_87 ?_
            refine v_iload_n C dX9_readNumber_90 rfl ?_
            refine v_isub C dX9_readNumber_91 ?_
            refine v_iconst 3 C dX9_readNumber_92 (by decide) ?_
            refine v_icmp_gt 102 C dX9_readNumber_93 (by decide) (fun h93 => ?_) (fun h93 => ?_)
            · refine v_aload_n C dX9_readNumber_102 rfl ?_
              refine v_iload_n C dX9_readNumber_103 rfl ?_
              refine v_iconst 1 C dX9_readNumber_104 (by decide) ?_
              refine v_callVi C (c_X9_fail hs) mt_X9_fail lk_RX9_47 rfl rfl (hs.1 8 _ rfl) rfl rfl rfl rfl rfl dX9_readNumber_105 ?_
              refine v_popi C dX9_readNumber_108 ?_
              refine v_iconst (-1) C dX9_readNumber_109 (by decide) ?_
              exact v_iret C dX9_readNumber_110 (by rw [← hf2]; have h74 : ¬ nI k = nI i := h74; first | (have h93 : 3 < nI k - nI i := h93; exact ⟨by simp [numR, h74, h93], rfl, by simp [numI, h74, h93], rfl, rfl⟩) | (have h93 : ¬ 3 < nI k - nI i := h93; exact ⟨by simp [numR, h74, h93, h99], rfl, by simp [numI, h74, h93, h99], rfl, rfl⟩))
            · refine v_iload_n C dX9_readNumber_96 rfl ?_
              refine v_bipush 100 C dX9_readNumber_97 (by decide) ?_
              refine v_icmp_le 111 C dX9_readNumber_99 (by decide) (fun h99 => ?_) (fun h99 => ?_)
              · refine v_iload_n C dX9_readNumber_111 rfl ?_
                exact v_iret C dX9_readNumber_112 (by rw [← hf2]; have h74 : ¬ nI k = nI i := h74; have h93 : ¬ 3 < nI k - nI i := h93; exact ⟨by simp [numR, h74, h93, h99], rfl, by simp [numI, h74, h93, h99], rfl, rfl⟩)
              · refine v_aload_n C dX9_readNumber_102 rfl ?_
                refine v_iload_n C dX9_readNumber_103 rfl ?_
                refine v_iconst 1 C dX9_readNumber_104 (by decide) ?_
                refine v_callVi C (c_X9_fail hs) mt_X9_fail lk_RX9_47 rfl rfl (hs.1 8 _ rfl) rfl rfl rfl rfl rfl dX9_readNumber_105 ?_
                refine v_popi C dX9_readNumber_108 ?_
                refine v_iconst (-1) C dX9_readNumber_109 (by decide) ?_
                exact v_iret C dX9_readNumber_110 (by rw [← hf2]; have h74 : ¬ nI k = nI i := h74; first | (have h93 : 3 < nI k - nI i := h93; exact ⟨by simp [numR, h74, h93], rfl, by simp [numI, h74, h93], rfl, rfl⟩) | (have h93 : ¬ 3 < nI k - nI i := h93; exact ⟨by simp [numR, h74, h93, h99], rfl, by simp [numI, h74, h93, h99], rfl, rfl⟩))
          · refine v_aload_n C dX9_readNumber_77 rfl ?_
            refine v_iload_n C dX9_readNumber_78 rfl ?_
            refine v_iconst 0 C dX9_readNumber_79 (by decide) ?_
            refine v_callVi C (c_X9_fail hs) mt_X9_fail lk_RX9_47 rfl rfl (hs.1 8 _ rfl) rfl rfl rfl rfl rfl dX9_readNumber_80 ?_
            refine v_popi C dX9_readNumber_83 ?_
            refine v_iconst (-1) C dX9_readNumber_84 (by decide) ?_
            exact v_iret C dX9_readNumber_85 (by rw [← hf2]; have h74 : nI k = nI i := h74; exact ⟨by simp [numR, h74], rfl, by simp [numI, h74], rfl, rfl⟩)
        · have hd : ¬ wI (I 9 k) 48 57 = 0 := h33
          refine v_bipush 101 C dX9_readNumber_36 (by decide) ?_
          refine v_bipush 10 C dX9_readNumber_38 (by decide) ?_
          refine v_iload_n C dX9_readNumber_40 rfl ?_
          refine v_imul C dX9_readNumber_41 ?_
          refine v_aload_n C dX9_readNumber_42 rfl ?_
          refine v_getR 9 C fl_RX9_11 rfl (hs.1 8 _ rfl) (hs.2 8 0 9 rfl) dX9_readNumber_43 ?_
          refine v_iload_n C dX9_readNumber_46 rfl ?_
          refine v_iaload k C (hs.1 9 _ rfl) (at_nI (by omega) (by decide)) dX9_readNumber_47 ?_
          refine v_iadd C dX9_readNumber_48 ?_
          refine v_bipush 48 C dX9_readNumber_49 (by decide) ?_
          refine v_isub C dX9_readNumber_51 ?_
          refine v_mmin C lk_RX9_69 math_min_st ini_Math0 math_min_code rfl (Nat.le_of_ble_eq_true rfl) (Nat.le_of_ble_eq_true rfl) (Nat.le_of_ble_eq_true rfl) (Nat.le_of_ble_eq_true rfl) dX9_readNumber_52 ?_
          refine v_istore_n C dX9_readNumber_55 (Nat.le_of_ble_eq_true rfl) rfl ?_
          refine v_aload_n C dX9_readNumber_56 rfl ?_
          refine v_iload_n C dX9_readNumber_57 rfl ?_
          refine v_iconst 1 C dX9_readNumber_58 (by decide) ?_
          refine v_iadd C dX9_readNumber_59 ?_
          refine v_putI C fl_RX9_31 rfl (hs.1 8 _ rfl) dX9_readNumber_60 ?_
          refine v_eqI (show _ = iu I 8 7 (nI (k + 1)) by rw [iu_iu, nI_1]) ?_
          refine v_iinc (nI (k + 1)) C dX9_readNumber_63 rfl (nI_1 k) (Nat.le_of_ble_eq_true rfl) rfl ?_
          refine v_goto 12 C dX9_readNumber_66 (by decide) ?_
          exact ih f (k + 1) _ (lt_fuel hfuel) (by omega) (by rw [← hf]; simp [numC, pdig, hkn, hd, mn, iu_ap])
  refine v_aload_n C dX9_readNumber_0 rfl ?_
  refine v_getI C fl_RX9_31 rfl (hs.1 8 _ rfl) dX9_readNumber_1 ?_
  refine v_istore_n C dX9_readNumber_4 (Nat.le_of_ble_eq_true rfl) rfl ?_
  refine v_iconst 0 C dX9_readNumber_5 (by decide) ?_
  refine v_istore_n C dX9_readNumber_6 (Nat.le_of_ble_eq_true rfl) rfl ?_
  refine v_aload_n C dX9_readNumber_7 rfl ?_
  refine v_getI C fl_RX9_31 rfl (hs.1 8 _ rfl) dX9_readNumber_8 ?_
  refine v_istore_n C dX9_readNumber_11 (Nat.le_of_ble_eq_true rfl) rfl ?_
  refine v_lv (show _ = [some (.ref 8), some (.int (I 8 7)), some (.int 0), some (.int (I 8 7))] from rfl) ?_
  rw [hi]
  refine v_eqI (show I = iu I 8 7 (nI i) by rw [← hi, iu_self]) ?_
  exact loop (n - i + 1) (n - i) i 0 (Nat.lt_succ_self _) (by omega) rfl
