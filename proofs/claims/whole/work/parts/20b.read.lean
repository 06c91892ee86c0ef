set_option maxHeartbeats 4000000 in
set_option maxRecDepth 100000 in
theorem c_X1_take {lnc : Launch} {E : En} {sh : List Sh} {I : IM} {J : JM} {R : RM} {z : Nat} (hs : St sh R) (hz : I 8 6 = nI z) (hzl : z ≤ 8) : Ct lnc E yX1_take cX1_take 3 none 0 0 [.ref 14, .ref 8] sh I J R 0 0 (m_ret none sh (takeL z 0 (iu I 14 2 (I 8 6))) J R) := by
  refine Ct.of (lv := [some (.ref 14), some (.ref 8), none]) (by decide) (Nat.le_of_ble_eq_true rfl) rfl (fun X hX C => ?_)
  have loop : ∀ (fuel : Nat) (m k : Nat) (Ii : IM), m < fuel → k + m = z → Ii 14 2 = nI z → takeL m k Ii = takeL z 0 (iu I 14 2 (I 8 6)) → V E X (m_Z E X (m_ret none sh (takeL z 0 (iu I 14 2 (I 8 6))) J R) 0 0) 0 0 sh Ii J R 10 [some (.ref 14), some (.ref 8), some (.int (nI k))] [] := by
    intro fuel
    induction fuel with
    | zero => intro m k Ii hfuel; exact absurd hfuel (Nat.not_lt_zero _)
    | succ fuel ih =>
      intro m k Ii hfuel hk hz2 hf
      refine v_iload_n C dX1_take_10 rfl ?_
      refine v_aload_n C dX1_take_11 rfl ?_
      refine v_getI C fl_RX1_24 rfl (hs.1 14 _ rfl) dX1_take_12 ?_
      rw [hz2]
      refine v_icmp_ge 48 C dX1_take_15 (by decide) (fun h15 => ?_) (fun h15 => ?_)
      · have hkn := nI_le_of h15 (by omega) (by omega)
        obtain rfl : m = 0 := by omega
        exact v_vret C dX1_take_48 ⟨rfl, rfl, hf, rfl, rfl⟩
      · have hkn := nI_lt_of h15 (by omega)
        obtain ⟨m, rfl⟩ : ∃ m2, m = m2 + 1 := ⟨m - 1, by omega⟩
        refine v_aload_n C dX1_take_18 rfl ?_
        refine v_getR 15 C fl_RX1_9 rfl (hs.1 14 _ rfl) (hs.2 14 0 15 rfl) dX1_take_19 ?_
        refine v_iload_n C dX1_take_22 rfl ?_
        refine v_aload_n C dX1_take_23 rfl ?_
        refine v_getR 12 C fl_RX1_25 rfl (hs.1 8 _ rfl) (hs.2 8 3 12 rfl) dX1_take_24 ?_
        refine v_iload_n C dX1_take_27 rfl ?_
        refine v_iaload k C (hs.1 12 _ rfl) (at_nI (by omega) (by decide)) dX1_take_28 ?_
        refine v_iastore k C (hs.1 15 _ rfl) (at_nI (by omega) (by decide)) dX1_take_29 ?_
        refine v_aload_n C dX1_take_30 rfl ?_
        refine v_getR 16 C fl_RX1_15 rfl (hs.1 14 _ rfl) (hs.2 14 1 16 rfl) dX1_take_31 ?_
        refine v_iload_n C dX1_take_34 rfl ?_
        refine v_aload_n C dX1_take_35 rfl ?_
        refine v_getR 13 C fl_RX1_26 rfl (hs.1 8 _ rfl) (hs.2 8 4 13 rfl) dX1_take_36 ?_
        refine v_iload_n C dX1_take_39 rfl ?_
        refine v_iaload k C (hs.1 13 _ rfl) (at_nI (by omega) (by decide)) dX1_take_40 ?_
        refine v_iastore k C (hs.1 16 _ rfl) (at_nI (by omega) (by decide)) dX1_take_41 ?_
        refine v_iinc (nI (k + 1)) C dX1_take_42 rfl (nI_1 k) (Nat.le_of_ble_eq_true rfl) rfl ?_
        refine v_goto 10 C dX1_take_45 (by decide) ?_
        exact ih m (k + 1) _ (lt_fuel hfuel) (by omega) hz2 hf
  refine v_aload_n C dX1_take_0 rfl ?_
  refine v_aload_n C dX1_take_1 rfl ?_
  refine v_getI C fl_RX1_18 rfl (hs.1 8 _ rfl) dX1_take_2 ?_
  refine v_putI C fl_RX1_24 rfl (hs.1 14 _ rfl) dX1_take_5 ?_
  refine v_iconst 0 C dX1_take_8 (by decide) ?_
  refine v_istore_n C dX1_take_9 (Nat.le_of_ble_eq_true rfl) rfl ?_
  exact loop (z + 1) z 0 _ (Nat.lt_succ_self _) (by omega) (iu_same.trans hz) rfl

set_option maxHeartbeats 4000000 in
set_option maxRecDepth 100000 in
theorem c_X9_read {lnc : Launch} {E : En} {sh : List Sh} {I : IM} {J : JM} {R : RM} {n : Nat} (hs : St sh R) (hn : I 8 5 = nI n) (hl : n ≤ 200) : Ct lnc E yX9_read cX9_read 2 none 3 72 [.ref 8] sh I J R 0 0 (m_ret none sh (readI I n) J R) := by
  refine Ct.of (lv := [some (.ref 8), none]) (by decide) (Nat.le_of_ble_eq_true rfl) rfl (fun X hX C => ?_)
  refine v_aload_n C dX9_read_0 rfl ?_
  refine v_iconst 0 C dX9_read_1 (by decide) ?_
  refine v_putI C fl_RX9_31 rfl (hs.1 8 _ rfl) dX9_read_2 ?_
  refine v_aload_n C dX9_read_5 rfl ?_
  refine v_iconst 0 C dX9_read_6 (by decide) ?_
  refine v_putI C fl_RX9_34 rfl (hs.1 8 _ rfl) dX9_read_7 ?_
  refine v_aload_n C dX9_read_10 rfl ?_
  refine v_iconst 0 C dX9_read_11 (by decide) ?_
  refine v_putI C fl_RX9_37 rfl (hs.1 8 _ rfl) dX9_read_12 ?_
  refine v_aload_n C dX9_read_15 rfl ?_
  refine v_callVv C (c_X9_skipBlanks (n := n) (i := 0) hs hn hl rfl (Nat.zero_le n)) mt_X9_skipBlanks lk_RX9_40 rfl rfl (hs.1 8 _ rfl) rfl rfl rfl rfl rfl dX9_read_16 ?_
  refine v_eqI (show _ = iu (iu (iu (iu I 8 7 0) 8 6 0) 8 8 0) 8 7 (nI (spK (I 9) n 0)) from rfl) ?_
  have bK := spK_b (T := I 9) (Nat.zero_le n)
  refine v_aload_n C dX9_read_19 rfl ?_
  refine v_getI C fl_RX9_31 rfl (hs.1 8 _ rfl) dX9_read_20 ?_
  refine v_eqi iu_same ?_
  refine v_aload_n C dX9_read_23 rfl ?_
  refine v_getI C fl_RX9_27 rfl (hs.1 8 _ rfl) dX9_read_24 ?_
  refine v_eqi (show _ = nI n from hn) ?_
  refine v_icmp_lt 31 C dX9_read_27 (by decide) (fun h27 => ?_) (fun h27 => ?_)
  · refine v_iconst 0 C dX9_read_31 (by decide) ?_
    refine v_istore_n C dX9_read_32 (Nat.le_of_ble_eq_true rfl) rfl ?_
    have hkn : spK (I 9) n 0 < n := (nI_ltI (by omega) (by omega)).mp h27
    have loop : ∀ (fuel : Nat) (f c : Nat) (Ii : IM) (i z : Nat), f < fuel → c + f = 9 → RInv Ii n i z → rdL n f Ii i z = readI I n → V E X (m_Z E X (m_ret none sh (readI I n) J R) 0 0) 0 0 sh Ii J R 33 [some (.ref 8), some (.int (nI c))] [] := by
      intro fuel
      induction fuel with
      | zero => intro f c Ii i z hfuel; exact absurd hfuel (Nat.not_lt_zero _)
      | succ fuel ih =>
        intro f c Ii i z hfuel hk hI hf
        refine v_iload_n C dX9_read_33 rfl ?_
        refine v_bipush 8 C dX9_read_34 (by decide) ?_
        refine v_icmp_gt 108 C dX9_read_36 (by decide) (fun h36 => ?_) (fun h36 => ?_)
        · obtain rfl : f = 0 := by rcases Nat.lt_or_ge c 9 with q | q; exact absurd h36 (Int32.not_lt.mpr (show nI c ≤ (8 : Int32) from nI_le (b := 8) (by omega) (by decide))); omega
          exact v_vret C dX9_read_108 ⟨rfl, rfl, hf, rfl, rfl⟩
        · have hc8 : c < 9 := by rcases Nat.lt_or_ge c 9 with q | q; exact q; exact absurd (show (8 : Int32) < nI c from nI_lt (a := 8) (by omega) (by omega)) h36
          obtain ⟨f, rfl⟩ : ∃ f2, f = f2 + 1 := ⟨f - 1, by omega⟩
          refine v_aload_n C dX9_read_39 rfl ?_
          refine v_callVi C (c_X9_readSpan (n := n) (i := i) (z := z) hs hI.1 hl hI.2.1 hI.2.2.1 hI.2.2.2.1 hI.2.2.2.2.1 hI.2.2.2.2.2) mt_X9_readSpan lk_RX9_43 rfl rfl (hs.1 8 _ rfl) rfl rfl rfl rfl rfl dX9_read_40 ?_
          refine v_if_ne 47 C dX9_read_43 (by decide) (fun h43 => ?_) (fun h43 => ?_)
          · have hS := hI.span h43
            refine v_aload_n C dX9_read_47 rfl ?_
            refine v_callVv C (c_X9_skipBlanks (n := n) (i := (rsE (Ii 9) n i)) hs hS.1.1 hl hS.1.2.1 hS.1.2.2.1) mt_X9_skipBlanks lk_RX9_40 rfl rfl (hs.1 8 _ rfl) rfl rfl rfl rfl rfl dX9_read_48 ?_
            refine v_eqI (show _ = iu (rsI Ii n i z) 8 7 (nI (spK (Ii 9) n (rsE (Ii 9) n i))) by rw [hS.2]; rfl) ?_
            have bK := spK_b (T := Ii 9) hS.1.2.2.1
            refine v_aload_n C dX9_read_51 rfl ?_
            refine v_getI C fl_RX9_31 rfl (hs.1 8 _ rfl) dX9_read_52 ?_
            refine v_eqi iu_same ?_
            refine v_aload_n C dX9_read_55 rfl ?_
            refine v_getI C fl_RX9_27 rfl (hs.1 8 _ rfl) dX9_read_56 ?_
            refine v_eqi (show _ = nI n from hS.1.1) ?_
            refine v_icmp_lt 63 C dX9_read_59 (by decide) (fun h59 => ?_) (fun h59 => ?_)
            · have hkn : (spK (Ii 9) n (rsE (Ii 9) n i)) < n := (nI_ltI (by omega) (by omega)).mp h59
              refine v_aload_n C dX9_read_63 rfl ?_
              refine v_getR 9 C fl_RX9_11 rfl (hs.1 8 _ rfl) (hs.2 8 0 9 rfl) dX9_read_64 ?_
              refine v_aload_n C dX9_read_67 rfl ?_
              refine v_getI C fl_RX9_31 rfl (hs.1 8 _ rfl) dX9_read_68 ?_
              refine v_eqi iu_same ?_
              refine v_iaload (spK (Ii 9) n (rsE (Ii 9) n i)) C (hs.1 9 _ rfl) (at_nI (by omega) (by decide)) dX9_read_71 ?_
              refine v_eqi (show _ = Ii 9 (spK (Ii 9) n (rsE (Ii 9) n i)) from congrFun hS.2 _) ?_
              refine v_bipush 59 C dX9_read_72 (by decide) ?_
              refine v_icmp_eq 88 C dX9_read_74 (by decide) (fun hb => ?_) (fun hb => ?_)
              · refine v_aload_n C dX9_read_88 rfl ?_
                refine v_dupr C dX9_read_89 ?_
                refine v_getI C fl_RX9_31 rfl (hs.1 8 _ rfl) dX9_read_90 ?_
                refine v_eqi iu_same ?_
                refine v_iconst 1 C dX9_read_93 (by decide) ?_
                refine v_iadd C dX9_read_94 ?_
                refine v_eqi (nI_1 _) ?_
                refine v_putI C fl_RX9_31 rfl (hs.1 8 _ rfl) dX9_read_95 ?_
                have hk1 : (spK (Ii 9) n (rsE (Ii 9) n i)) + 1 ≤ n := by omega
                refine v_eqI iu_iu ?_
                refine v_aload_n C dX9_read_98 rfl ?_
                refine v_callVv C (c_X9_skipBlanks (n := n) (i := (spK (Ii 9) n (rsE (Ii 9) n i)) + 1) hs hS.1.1 hl iu_same hk1) mt_X9_skipBlanks lk_RX9_40 rfl rfl (hs.1 8 _ rfl) rfl rfl rfl rfl rfl dX9_read_99 ?_
                refine v_eqI (show _ = iu (rsI Ii n i z) 8 7 (nI (spK (Ii 9) n ((spK (Ii 9) n (rsE (Ii 9) n i)) + 1))) by rw [iu_iu, iu_ne 9 (by decide), hS.2]; rfl) ?_
                refine v_iinc (nI (c + 1)) C dX9_read_102 rfl (nI_1 c) (Nat.le_of_ble_eq_true rfl) rfl ?_
                refine v_goto 33 C dX9_read_105 (by decide) ?_
                exact ih f (c + 1) _ (spK (Ii 9) n ((spK (Ii 9) n (rsE (Ii 9) n i)) + 1)) (z + 1) (lt_fuel hfuel) (by omega) (hS.1.at (spK_b (T := Ii 9) hk1).2) (by rw [← hf]; simp [rdL, h43, hkn, hb])
              · refine v_aload_n C dX9_read_77 rfl ?_
                refine v_aload_n C dX9_read_78 rfl ?_
                refine v_getI C fl_RX9_31 rfl (hs.1 8 _ rfl) dX9_read_79 ?_
                refine v_eqi iu_same ?_
                refine v_iconst 0 C dX9_read_82 (by decide) ?_
                refine v_callVi C (c_X9_fail hs) mt_X9_fail lk_RX9_47 rfl rfl (hs.1 8 _ rfl) rfl rfl rfl rfl rfl dX9_read_83 ?_
                refine v_popi C dX9_read_86 ?_
                exact v_vret C dX9_read_87 ⟨rfl, rfl, by rw [← hf]; simp [rdL, h43, hkn, hb], rfl, rfl⟩
            · have hkn : ¬ (spK (Ii 9) n (rsE (Ii 9) n i)) < n := fun q => h59 (nI_lt q (by omega))
              exact v_vret C dX9_read_62 ⟨rfl, rfl, by rw [← hf]; simp [rdL, h43, hkn], rfl, rfl⟩
          · exact v_vret C dX9_read_46 ⟨rfl, rfl, by rw [← hf]; simp [rdL, h43], rfl, rfl⟩
    exact loop 10 9 0 _ (spK (I 9) n 0) 0 (by decide) rfl ⟨hn, iu_same, bK.2, rfl, by decide, fun k hk => absurd hk (Nat.not_lt_zero k)⟩ (if_pos hkn).symm
  · exact v_vret C dX9_read_30 ⟨rfl, rfl, (if_neg (fun q => h27 (nI_lt q (by omega)))).symm, rfl, rfl⟩
