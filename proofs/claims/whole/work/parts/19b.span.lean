set_option maxHeartbeats 4000000 in
set_option maxRecDepth 100000 in
theorem c_X9_readSpan {lnc : Launch} {E : En} {sh : List Sh} {I : IM} {J : JM} {R : RM} {n i z : Nat} (hs : St sh R) (hn : I 8 5 = nI n) (hl : n ≤ 200) (hi : I 8 7 = nI i) (hin : i ≤ n) (hz : I 8 6 = nI z) (hzl : z ≤ 8) (hw : WOK I n z) : Ct lnc E yX9_readSpan cX9_readSpan 6 (some .boolean) 2 47 [.ref 8] sh I J R 0 0 (m_ret (some (.int (rsR I n i z))) sh (rsI I n i z) J R) := by
  refine Ct.of (lv := [some (.ref 8), none, none, none, none, none]) (by decide) (Nat.le_of_ble_eq_true rfl) rfl (fun X hX C => ?_)
  refine v_aload_n C dX9_readSpan_0 rfl ?_
  refine v_getI C fl_RX9_31 rfl (hs.1 8 _ rfl) dX9_readSpan_1 ?_
  refine v_eqi (show _ = nI i from hi) ?_
  refine v_istore_n C dX9_readSpan_4 (Nat.le_of_ble_eq_true rfl) rfl ?_
  refine v_aload_n C dX9_readSpan_5 rfl ?_
  refine v_callVv C (c_X9_skipLetters hs hn hl hi hin) mt_X9_skipLetters lk_RX9_51 rfl rfl (hs.1 8 _ rfl) rfl rfl rfl rfl rfl dX9_readSpan_6 ?_
  refine v_eqI (show _ = iu I 8 7 (nI (spJ (I 9) n i)) from rfl) ?_
  have bJ := spJ_b (T := I 9) hin
  refine v_aload_n C dX9_readSpan_9 rfl ?_
  refine v_getI C fl_RX9_31 rfl (hs.1 8 _ rfl) dX9_readSpan_10 ?_
  refine v_eqi iu_same ?_
  refine v_iload_n C dX9_readSpan_13 rfl ?_
  refine v_icmp_ne 24 C dX9_readSpan_14 (by decide) (fun h14 => ?_) (fun h14 => ?_)
  · refine v_aload_n C dX9_readSpan_24 rfl ?_
    refine v_getI C fl_RX9_31 rfl (hs.1 8 _ rfl) dX9_readSpan_25 ?_
    refine v_eqi iu_same ?_
    refine v_iload_n C dX9_readSpan_28 rfl ?_
    refine v_isub C dX9_readSpan_29 ?_
    refine v_bipush 10 C dX9_readSpan_30 (by decide) ?_
    refine v_icmp_le 42 C dX9_readSpan_32 (by decide) (fun h32 => ?_) (fun h32 => ?_)
    · refine v_aload_n C dX9_readSpan_42 rfl ?_
      refine v_getI C fl_RX9_34 rfl (hs.1 8 _ rfl) dX9_readSpan_43 ?_
      refine v_eqi (show _ = nI z from hz) ?_
      refine v_bipush 8 C dX9_readSpan_46 (by decide) ?_
      refine v_icmp_ge 63 C dX9_readSpan_48 (by decide) (fun h48 => ?_) (fun h48 => ?_)
      · refine v_aload_n C dX9_readSpan_63 rfl ?_
        refine v_iload_n C dX9_readSpan_64 rfl ?_
        refine v_iconst 2 C dX9_readSpan_65 (by decide) ?_
        refine v_callVi C (c_X9_fail hs) mt_X9_fail lk_RX9_47 rfl rfl (hs.1 8 _ rfl) rfl rfl rfl rfl rfl dX9_readSpan_66 ?_
        exact v_zret C (Or.inl rfl) dX9_readSpan_69 (by first | (refine ⟨?_, rfl, ?_, rfl, rfl⟩ <;> simp [rsR, rsI, h14, h32, h48, h60]; done) | (refine ⟨?_, rfl, ?_, rfl, rfl⟩ <;> simp [rsR, rsI, h14, h32, h48]; done))
      · refine v_aload_n C dX9_readSpan_51 rfl ?_
        refine v_iload_n C dX9_readSpan_52 rfl ?_
        refine v_aload_n C dX9_readSpan_53 rfl ?_
        refine v_getI C fl_RX9_31 rfl (hs.1 8 _ rfl) dX9_readSpan_54 ?_
        refine v_eqi iu_same ?_
        refine v_callVi C (c_X9_isTold (z := z) hs hz hzl bJ.1 (by omega) (hw.told hl bJ.1 (by omega))) mt_X9_isTold lk_RX9_54 rfl rfl (hs.1 8 _ rfl) rfl rfl rfl rfl rfl dX9_readSpan_57 ?_
        refine v_eqi (show _ = toldF (I 9) (I 10) (I 11) i (spJ (I 9) n i) z 0 from rfl) ?_
        refine v_if_eq 70 C dX9_readSpan_60 (by decide) (fun h60 => ?_) (fun h60 => ?_)
        · refine v_aload_n C dX9_readSpan_70 rfl ?_
          refine v_getI C fl_RX9_31 rfl (hs.1 8 _ rfl) dX9_readSpan_71 ?_
          refine v_eqi iu_same ?_
          refine v_istore_n C dX9_readSpan_74 (Nat.le_of_ble_eq_true rfl) rfl ?_
          refine v_aload_n C dX9_readSpan_75 rfl ?_
          refine v_callVv C (c_X9_skipBlanks (i := (spJ (I 9) n i)) hs hn hl iu_same bJ.2) mt_X9_skipBlanks lk_RX9_40 rfl rfl (hs.1 8 _ rfl) rfl rfl rfl rfl rfl dX9_readSpan_76 ?_
          refine v_eqI (show _ = iu I 8 7 (nI (spK (I 9) n (spJ (I 9) n i))) from iu_iu) ?_
          have bK := spK_b (T := I 9) bJ.2
          refine v_aload_n C dX9_readSpan_79 rfl ?_
          refine v_callVi C (c_X9_readNumber (i := (spK (I 9) n (spJ (I 9) n i))) hs hn hl iu_same bK.2) mt_X9_readNumber lk_RX9_57 rfl rfl (hs.1 8 _ rfl) rfl rfl rfl rfl rfl dX9_readSpan_80 ?_
          refine v_eqi (show _ = (numR (spK (I 9) n (spJ (I 9) n i)) (spN (I 9) n (spK (I 9) n (spJ (I 9) n i))).1 (spN (I 9) n (spK (I 9) n (spJ (I 9) n i))).2) from rfl) ?_
          refine v_eqI (show _ = numI (iu I 8 7 (nI (spK (I 9) n (spJ (I 9) n i)))) (spK (I 9) n (spJ (I 9) n i)) (spN (I 9) n (spK (I 9) n (spJ (I 9) n i))).1 (spN (I 9) n (spK (I 9) n (spJ (I 9) n i))).2 from rfl) ?_
          refine v_istore_n C dX9_readSpan_83 (Nat.le_of_ble_eq_true rfl) rfl ?_
          refine v_iload_n C dX9_readSpan_84 rfl ?_
          refine v_iconst (-1) C dX9_readSpan_85 (by decide) ?_
          refine v_icmp_ne 91 C dX9_readSpan_86 (by decide) (fun h86 => ?_) (fun h86 => ?_)
          · refine v_eqI (show _ = iu I 8 7 (nI (spN (I 9) n (spK (I 9) n (spJ (I 9) n i))).1) from numI_ok h86) ?_
            have bE := spN_b (T := I 9) bK.2
            refine v_aload_n C dX9_readSpan_91 rfl ?_
            refine v_callVv C (c_X9_skipBlanks (i := (spN (I 9) n (spK (I 9) n (spJ (I 9) n i))).1) hs hn hl iu_same bE.2) mt_X9_skipBlanks lk_RX9_40 rfl rfl (hs.1 8 _ rfl) rfl rfl rfl rfl rfl dX9_readSpan_92 ?_
            refine v_eqI (show _ = iu I 8 7 (nI (spK (I 9) n (spN (I 9) n (spK (I 9) n (spJ (I 9) n i))).1)) from iu_iu) ?_
            have bK2 := spK_b (T := I 9) bE.2
            refine v_aload_n C dX9_readSpan_95 rfl ?_
            refine v_getI C fl_RX9_31 rfl (hs.1 8 _ rfl) dX9_readSpan_96 ?_
            refine v_eqi iu_same ?_
            refine v_istore C dX9_readSpan_99 (Nat.le_of_ble_eq_true rfl) rfl ?_
            refine v_aload_n C dX9_readSpan_101 rfl ?_
            refine v_callVi C (c_X9_readNumber (i := (spK (I 9) n (spN (I 9) n (spK (I 9) n (spJ (I 9) n i))).1)) hs hn hl iu_same bK2.2) mt_X9_readNumber lk_RX9_57 rfl rfl (hs.1 8 _ rfl) rfl rfl rfl rfl rfl dX9_readSpan_102 ?_
            refine v_eqi (show _ = (numR (spK (I 9) n (spN (I 9) n (spK (I 9) n (spJ (I 9) n i))).1) (spN (I 9) n (spK (I 9) n (spN (I 9) n (spK (I 9) n (spJ (I 9) n i))).1)).1 (spN (I 9) n (spK (I 9) n (spN (I 9) n (spK (I 9) n (spJ (I 9) n i))).1)).2) from rfl) ?_
            refine v_eqI (show _ = numI (iu I 8 7 (nI (spK (I 9) n (spN (I 9) n (spK (I 9) n (spJ (I 9) n i))).1))) (spK (I 9) n (spN (I 9) n (spK (I 9) n (spJ (I 9) n i))).1) (spN (I 9) n (spK (I 9) n (spN (I 9) n (spK (I 9) n (spJ (I 9) n i))).1)).1 (spN (I 9) n (spK (I 9) n (spN (I 9) n (spK (I 9) n (spJ (I 9) n i))).1)).2 from rfl) ?_
            refine v_istore C dX9_readSpan_105 (Nat.le_of_ble_eq_true rfl) rfl ?_
            refine v_iload C dX9_readSpan_107 rfl ?_
            refine v_iconst (-1) C dX9_readSpan_109 (by decide) ?_
            refine v_icmp_ne 115 C dX9_readSpan_110 (by decide) (fun h110 => ?_) (fun h110 => ?_)
            · refine v_eqI (show _ = iu I 8 7 (nI (spN (I 9) n (spK (I 9) n (spN (I 9) n (spK (I 9) n (spJ (I 9) n i))).1)).1) from numI_ok h110) ?_
              refine v_iload C dX9_readSpan_115 rfl ?_
              refine v_iload_n C dX9_readSpan_117 rfl ?_
              refine v_icmp_ge 129 C dX9_readSpan_118 (by decide) (fun h118 => ?_) (fun h118 => ?_)
              · refine v_aload_n C dX9_readSpan_129 rfl ?_
                refine v_iload_n C dX9_readSpan_130 rfl ?_
                refine v_iload_n C dX9_readSpan_131 rfl ?_
                refine v_iload_n C dX9_readSpan_132 rfl ?_
                refine v_iload C dX9_readSpan_133 rfl ?_
                refine v_callVv C (c_X9_keepSpan (z := z) hs hz (nI_lt_of h48 (by omega))) mt_X9_keepSpan lk_RX9_61 rfl rfl (hs.1 8 _ rfl) rfl rfl rfl rfl rfl dX9_readSpan_135 ?_
                refine v_iconst 1 C dX9_readSpan_138 (by decide) ?_
                exact v_zret C (Or.inr rfl) dX9_readSpan_139 (by refine ⟨?_, rfl, ?_, rfl, rfl⟩ <;> simp [rsR, rsI, h14, h32, h48, h60, h86, h110, h118])
              · refine v_aload_n C dX9_readSpan_121 rfl ?_
                refine v_iload C dX9_readSpan_122 rfl ?_
                refine v_iconst 1 C dX9_readSpan_124 (by decide) ?_
                refine v_callVi C (c_X9_fail hs) mt_X9_fail lk_RX9_47 rfl rfl (hs.1 8 _ rfl) rfl rfl rfl rfl rfl dX9_readSpan_125 ?_
                exact v_zret C (Or.inl rfl) dX9_readSpan_128 (by refine ⟨?_, rfl, ?_, rfl, rfl⟩ <;> simp [rsR, rsI, h14, h32, h48, h60, h86, h110, h118])
            · refine v_iconst 0 C dX9_readSpan_113 (by decide) ?_
              exact v_zret C (Or.inl rfl) dX9_readSpan_114 (by refine ⟨?_, rfl, ?_, rfl, rfl⟩ <;> simp [rsR, rsI, h14, h32, h48, h60, h86, h110])
          · refine v_iconst 0 C dX9_readSpan_89 (by decide) ?_
            exact v_zret C (Or.inl rfl) dX9_readSpan_90 (by refine ⟨?_, rfl, ?_, rfl, rfl⟩ <;> simp [rsR, rsI, h14, h32, h48, h60, h86])
        · refine v_aload_n C dX9_readSpan_63 rfl ?_
          refine v_iload_n C dX9_readSpan_64 rfl ?_
          refine v_iconst 2 C dX9_readSpan_65 (by decide) ?_
          refine v_callVi C (c_X9_fail hs) mt_X9_fail lk_RX9_47 rfl rfl (hs.1 8 _ rfl) rfl rfl rfl rfl rfl dX9_readSpan_66 ?_
          exact v_zret C (Or.inl rfl) dX9_readSpan_69 (by first | (refine ⟨?_, rfl, ?_, rfl, rfl⟩ <;> simp [rsR, rsI, h14, h32, h48, h60]; done) | (refine ⟨?_, rfl, ?_, rfl, rfl⟩ <;> simp [rsR, rsI, h14, h32, h48]; done))
    · refine v_aload_n C dX9_readSpan_35 rfl ?_
      refine v_iload_n C dX9_readSpan_36 rfl ?_
      refine v_iconst 1 C dX9_readSpan_37 (by decide) ?_
      refine v_callVi C (c_X9_fail hs) mt_X9_fail lk_RX9_47 rfl rfl (hs.1 8 _ rfl) rfl rfl rfl rfl rfl dX9_readSpan_38 ?_
      exact v_zret C (Or.inl rfl) dX9_readSpan_41 (by refine ⟨?_, rfl, ?_, rfl, rfl⟩ <;> simp [rsR, rsI, h14, h32])
  · refine v_aload_n C dX9_readSpan_17 rfl ?_
    refine v_iload_n C dX9_readSpan_18 rfl ?_
    refine v_iconst 0 C dX9_readSpan_19 (by decide) ?_
    refine v_callVi C (c_X9_fail hs) mt_X9_fail lk_RX9_47 rfl rfl (hs.1 8 _ rfl) rfl rfl rfl rfl rfl dX9_readSpan_20 ?_
    exact v_zret C (Or.inl rfl) dX9_readSpan_23 (by refine ⟨?_, rfl, ?_, rfl, rfl⟩ <;> simp [rsR, rsI, h14])
