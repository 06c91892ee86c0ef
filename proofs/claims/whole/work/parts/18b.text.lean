set_option maxHeartbeats 4000000 in
set_option maxRecDepth 100000 in
theorem c_X11_isDigit {lnc : Launch} {E : En} {sh : List Sh} {I : IM} {J : JM} {R : RM} {x : Int32} : Ct lnc E yX11_isDigit cX11_isDigit 1 (some .boolean) 0 0 [.int x] sh I J R 0 0 (m_ret (some (.int (wI x 48 57))) sh I J R) := by
  refine Ct.of (lv := [some (.int x)]) (by decide) (Nat.le_of_ble_eq_true rfl) rfl (fun X hX C => ?_)
  refine v_iload_n C dX11_isDigit_0 rfl ?_
  refine v_bipush 48 C dX11_isDigit_1 (by decide) ?_
  refine v_icmp_lt 16 C dX11_isDigit_3 (by decide) (fun h3 => ?_) (fun h3 => ?_)
  · refine v_iconst 0 C dX11_isDigit_16 (by decide) ?_
    exact v_zret C (Or.inl rfl) dX11_isDigit_17 ⟨by simp [wI, *], rfl, rfl, rfl, rfl⟩
  · refine v_iload_n C dX11_isDigit_6 rfl ?_
    refine v_bipush 57 C dX11_isDigit_7 (by decide) ?_
    refine v_icmp_gt 16 C dX11_isDigit_9 (by decide) (fun h9 => ?_) (fun h9 => ?_)
    · refine v_iconst 0 C dX11_isDigit_16 (by decide) ?_
      exact v_zret C (Or.inl rfl) dX11_isDigit_17 ⟨by simp [wI, *], rfl, rfl, rfl, rfl⟩
    · refine v_iconst 1 C dX11_isDigit_12 (by decide) ?_
      refine v_goto 17 C dX11_isDigit_13 (by decide) ?_
      exact v_zret C (Or.inr rfl) dX11_isDigit_17 ⟨by simp [wI, *], rfl, rfl, rfl, rfl⟩

set_option maxHeartbeats 4000000 in
set_option maxRecDepth 100000 in
theorem c_X11_fails {lnc : Launch} {E : En} {sh : List Sh} {I : IM} {J : JM} {R : RM} {w p : Int32} (hs : St sh R) : Ct lnc E yX11_fails cX11_fails 3 (some .boolean) 0 0 [.ref 47, .int w, .int p] sh I J R 0 0 (m_ret (some (.int 0)) sh (failsI I w p) J R) := by
  refine Ct.of (lv := [some (.ref 47), some (.int w), some (.int p)]) (by decide) (Nat.le_of_ble_eq_true rfl) rfl (fun X hX C => ?_)
  refine v_aload_n C dX11_fails_0 rfl ?_
  refine v_getI C fl_RX11_170 rfl (hs.1 47 _ rfl) dX11_fails_1 ?_
  refine v_if_ne 19 C dX11_fails_4 (by decide) (fun h4 => ?_) (fun h4 => ?_)
  · refine v_iconst 0 C dX11_fails_19 (by decide) ?_
    exact v_zret C (Or.inl rfl) dX11_fails_20 ⟨rfl, rfl, by simp [failsI, *], rfl, rfl⟩
  · refine v_aload_n C dX11_fails_7 rfl ?_
    refine v_iconst 1 C dX11_fails_8 (by decide) ?_
    refine v_bipush 8 C dX11_fails_9 (by decide) ?_
    refine v_iload_n C dX11_fails_11 rfl ?_
    refine v_imul C dX11_fails_12 ?_
    refine v_iadd C dX11_fails_13 ?_
    refine v_iload_n C dX11_fails_14 rfl ?_
    refine v_iadd C dX11_fails_15 ?_
    refine v_putI C fl_RX11_170 rfl (hs.1 47 _ rfl) dX11_fails_16 ?_
    refine v_iconst 0 C dX11_fails_19 (by decide) ?_
    exact v_zret C (Or.inl rfl) dX11_fails_20 ⟨rfl, rfl, by simp [failsI, *], rfl, rfl⟩

set_option maxHeartbeats 4000000 in
set_option maxRecDepth 100000 in
theorem c_X11_see {lnc : Launch} {E : En} {sh : List Sh} {I : IM} {J : JM} {R : RM} {n i : Nat} (hs : St sh R) (hn : I 47 39 = nI n) (hl : n ≤ 200) (hi : I 47 40 = nI i) (hin : i ≤ n) : Ct lnc E yX11_see cX11_see 1 (some .int) 0 0 [.ref 47] sh I J R 0 0 (m_ret (some (.int (seeR (I 77) n (seeJ I n i)))) sh (iu I 47 40 (nI (seeJ I n i))) J R) := by
  refine Ct.of (lv := [some (.ref 47)]) (by decide) (Nat.le_of_ble_eq_true rfl) rfl (fun X hX C => ?_)
  have loop : ∀ (fuel : Nat) (f k : Nat), f < fuel → k + f = n → scan pbl (I 77) n f k = seeJ I n i → V E X (m_Z E X (m_ret (some (.int (seeR (I 77) n (seeJ I n i)))) sh (iu I 47 40 (nI (seeJ I n i))) J R) 0 0) 0 0 sh (iu I 47 40 (nI k)) J R 0 [some (.ref 47)] [] := by
    intro fuel
    induction fuel with
    | zero => intro f k hfuel; exact absurd hfuel (Nat.not_lt_zero _)
    | succ fuel ih =>
      intro f k hfuel hk hf
      refine v_aload_n C dX11_see_0 rfl ?_
      refine v_getI C fl_RX11_173 rfl (hs.1 47 _ rfl) dX11_see_1 ?_
      refine v_eqi iu_same ?_
      refine v_aload_n C dX11_see_4 rfl ?_
      refine v_getI C fl_RX11_163 rfl (hs.1 47 _ rfl) dX11_see_5 ?_
      refine v_eqi (show _ = nI n from hn) ?_
      refine v_icmp_ge 38 C dX11_see_8 (by decide) (fun h8 => ?_) (fun h8 => ?_)
      · have hf2 : k = seeJ I n i := by first | (have hb : ¬ I 77 k = 32 := h22; rw [← hf]; simp [scan, pbl, hb]; done) | (have hkn := nI_le_of h8 (by omega) (by omega); obtain rfl : f = 0 := (by omega); exact hf)
        refine v_aload_n C dX11_see_38 rfl ?_
        refine v_getI C fl_RX11_173 rfl (hs.1 47 _ rfl) dX11_see_39 ?_
        refine v_eqi iu_same ?_
        refine v_aload_n C dX11_see_42 rfl ?_
        refine v_getI C fl_RX11_163 rfl (hs.1 47 _ rfl) dX11_see_43 ?_
        refine v_eqi (show _ = nI n from hn) ?_
        refine v_icmp_ge 65 C dX11_see_46 (by decide) (fun h46 => ?_) (fun h46 => ?_)
        · have hkn := nI_le_of h46 (by omega) (by omega)
          refine v_iconst (-1) C dX11_see_65 (by decide) ?_
          exact v_iret C dX11_see_66 (by rw [← hf2]; first | (refine ⟨?_, rfl, rfl, rfl, rfl⟩; simp [seeR, hkn, iu_ap]; done) | (refine ⟨?_, rfl, rfl, rfl, rfl⟩; simp [seeR, show ¬ k < n by omega]; done))
        · have hkn := nI_lt_of h46 (by omega)
          refine v_aload_n C dX11_see_49 rfl ?_
          refine v_getR 77 C fl_RX11_98 rfl (hs.1 47 _ rfl) (hs.2 47 38 77 rfl) dX11_see_50 ?_
          refine v_aload_n C dX11_see_53 rfl ?_
          refine v_getI C fl_RX11_173 rfl (hs.1 47 _ rfl) dX11_see_54 ?_
          refine v_baload k C (hs.1 77 _ rfl) (at_e (show iu I 47 40 (nI k) 47 40 = nI k from iu_same) (by omega) (by decide)) dX11_see_57 ?_
          refine v_sipush 255 C dX11_see_58 (by decide) ?_
          refine v_iand C dX11_see_61 ?_
          refine v_goto 66 C dX11_see_62 (by decide) ?_
          exact v_iret C dX11_see_66 (by rw [← hf2]; first | (refine ⟨?_, rfl, rfl, rfl, rfl⟩; simp [seeR, hkn, iu_ap]; done) | (refine ⟨?_, rfl, rfl, rfl, rfl⟩; simp [seeR, show ¬ k < n by omega]; done))
      · have hkn := nI_lt_of h8 (by omega)
        obtain ⟨f, rfl⟩ : ∃ f2, f = f2 + 1 := ⟨f - 1, by omega⟩
        refine v_aload_n C dX11_see_11 rfl ?_
        refine v_getR 77 C fl_RX11_98 rfl (hs.1 47 _ rfl) (hs.2 47 38 77 rfl) dX11_see_12 ?_
        refine v_aload_n C dX11_see_15 rfl ?_
        refine v_getI C fl_RX11_173 rfl (hs.1 47 _ rfl) dX11_see_16 ?_
        refine v_baload k C (hs.1 77 _ rfl) (at_e (show iu I 47 40 (nI k) 47 40 = nI k from iu_same) (by omega) (by decide)) dX11_see_19 ?_
        refine v_bipush 32 C dX11_see_20 (by decide) ?_
        refine v_icmp_ne 38 C dX11_see_22 (by decide) (fun h22 => ?_) (fun h22 => ?_)
        · have hf2 : k = seeJ I n i := by first | (have hb : ¬ I 77 k = 32 := h22; rw [← hf]; simp [scan, pbl, hb]; done) | (have hkn := nI_le_of h8 (by omega) (by omega); obtain rfl : f = 0 := (by omega); exact hf)
          refine v_aload_n C dX11_see_38 rfl ?_
          refine v_getI C fl_RX11_173 rfl (hs.1 47 _ rfl) dX11_see_39 ?_
          refine v_eqi iu_same ?_
          refine v_aload_n C dX11_see_42 rfl ?_
          refine v_getI C fl_RX11_163 rfl (hs.1 47 _ rfl) dX11_see_43 ?_
          refine v_eqi (show _ = nI n from hn) ?_
          refine v_icmp_ge 65 C dX11_see_46 (by decide) (fun h46 => ?_) (fun h46 => ?_)
          · have hkn := nI_le_of h46 (by omega) (by omega)
            refine v_iconst (-1) C dX11_see_65 (by decide) ?_
            exact v_iret C dX11_see_66 (by rw [← hf2]; first | (refine ⟨?_, rfl, rfl, rfl, rfl⟩; simp [seeR, hkn, iu_ap]; done) | (refine ⟨?_, rfl, rfl, rfl, rfl⟩; simp [seeR, show ¬ k < n by omega]; done))
          · have hkn := nI_lt_of h46 (by omega)
            refine v_aload_n C dX11_see_49 rfl ?_
            refine v_getR 77 C fl_RX11_98 rfl (hs.1 47 _ rfl) (hs.2 47 38 77 rfl) dX11_see_50 ?_
            refine v_aload_n C dX11_see_53 rfl ?_
            refine v_getI C fl_RX11_173 rfl (hs.1 47 _ rfl) dX11_see_54 ?_
            refine v_baload k C (hs.1 77 _ rfl) (at_e (show iu I 47 40 (nI k) 47 40 = nI k from iu_same) (by omega) (by decide)) dX11_see_57 ?_
            refine v_sipush 255 C dX11_see_58 (by decide) ?_
            refine v_iand C dX11_see_61 ?_
            refine v_goto 66 C dX11_see_62 (by decide) ?_
            exact v_iret C dX11_see_66 (by rw [← hf2]; first | (refine ⟨?_, rfl, rfl, rfl, rfl⟩; simp [seeR, hkn, iu_ap]; done) | (refine ⟨?_, rfl, rfl, rfl, rfl⟩; simp [seeR, show ¬ k < n by omega]; done))
        · have hb : I 77 k = 32 := h22
          refine v_aload_n C dX11_see_25 rfl ?_
          refine v_dupr C dX11_see_26 ?_
          refine v_getI C fl_RX11_173 rfl (hs.1 47 _ rfl) dX11_see_27 ?_
          refine v_iconst 1 C dX11_see_30 (by decide) ?_
          refine v_iadd C dX11_see_31 ?_
          refine v_putI C fl_RX11_173 rfl (hs.1 47 _ rfl) dX11_see_32 ?_
          refine v_eqI (show _ = iu I 47 40 (nI (k + 1)) by rw [iu_iu, iu_same, nI_1]) ?_
          refine v_goto 0 C dX11_see_35 (by decide) ?_
          exact ih f (k + 1) (lt_fuel hfuel) (by omega) (by rw [← hf]; simp [scan, pbl, hkn, hb])
  refine v_eqI (show I = iu I 47 40 (nI i) by rw [← hi, iu_self]) ?_
  exact loop (n - i + 1) (n - i) i (Nat.lt_succ_self _) (by omega) rfl

set_option maxHeartbeats 4000000 in
set_option maxRecDepth 100000 in
theorem c_X11_number {lnc : Launch} {E : En} {sh : List Sh} {I : IM} {J : JM} {R : RM} {n i : Nat} {lo hi : Int32} (hs : St sh R) (hn : I 47 39 = nI n) (hl : n ≤ 200) (hi_ : I 47 40 = nI i) (hin : i ≤ n) : Ct lnc E yX11_number cX11_number 6 (some .boolean) 1 22 [.ref 47, .int lo, .int hi] sh I J R 0 0 (m_ret (some (.int (nbR I n i lo hi))) sh (nbI I n i lo hi) J R) := by
  refine Ct.of (lv := [some (.ref 47), some (.int lo), some (.int hi), none, none, none]) (by decide) (Nat.le_of_ble_eq_true rfl) rfl (fun X hX C => ?_)
  have loop : ∀ (fuel : Nat) (f k : Nat) (c v : Int32), f < fuel → k + f = n → numM (I 77) n f k c v = (numM (I 77) n (n - (seeJ I n i)) (seeJ I n i) 0 0) → V E X (m_Z E X (m_ret (some (.int (nbR I n i lo hi))) sh (nbI I n i lo hi) J R) 0 0) 0 0 sh (iu I 47 40 (nI (numM (I 77) n (n - (seeJ I n i)) (seeJ I n i) 0 0).1)) J R 99 [some (.ref 47), some (.int lo), some (.int hi), some (.int (nI (seeJ I n i))), some (.int (numM (I 77) n (n - (seeJ I n i)) (seeJ I n i) 0 0).2.1), some (.int (numM (I 77) n (n - (seeJ I n i)) (seeJ I n i) 0 0).2.2)] [] → V E X (m_Z E X (m_ret (some (.int (nbR I n i lo hi))) sh (nbI I n i lo hi) J R) 0 0) 0 0 sh (iu I 47 40 (nI k)) J R 31 [some (.ref 47), some (.int lo), some (.int hi), some (.int (nI (seeJ I n i))), some (.int c), some (.int v)] [] := by
    intro fuel
    induction fuel with
    | zero => intro f k c v hfuel; exact absurd hfuel (Nat.not_lt_zero _)
    | succ fuel ih =>
      intro f k c v hfuel hk hf hx
      refine v_aload_n C dX11_number_31 rfl ?_
      refine v_getI C fl_RX11_173 rfl (hs.1 47 _ rfl) dX11_number_32 ?_
      refine v_eqi iu_same ?_
      refine v_aload_n C dX11_number_35 rfl ?_
      refine v_getI C fl_RX11_163 rfl (hs.1 47 _ rfl) dX11_number_36 ?_
      refine v_eqi (show _ = nI n from hn) ?_
      refine v_icmp_ge 99 C dX11_number_39 (by decide) (fun h39 => ?_) (fun h39 => ?_)
      · have hf2 : (k, c, v) = (numM (I 77) n (n - (seeJ I n i)) (seeJ I n i) 0 0) := by first | (have hd : wI (I 77 k) 48 57 = 0 := h54; rw [← hf]; simp [numM, pdig, hd]; done) | (have hkn := nI_le_of h39 (by omega) (by omega); obtain rfl : f = 0 := (by omega); exact hf)
        rw [← hf2] at hx
        exact hx
      · have hkn := nI_lt_of h39 (by omega)
        obtain ⟨f, rfl⟩ : ∃ f2, f = f2 + 1 := ⟨f - 1, by omega⟩
        refine v_aload_n C dX11_number_42 rfl ?_
        refine v_getR 77 C fl_RX11_98 rfl (hs.1 47 _ rfl) (hs.2 47 38 77 rfl) dX11_number_43 ?_
        refine v_aload_n C dX11_number_46 rfl ?_
        refine v_getI C fl_RX11_173 rfl (hs.1 47 _ rfl) dX11_number_47 ?_
        refine v_baload k C (hs.1 77 _ rfl) (at_e (show iu I 47 40 (nI k) 47 40 = nI k from iu_same) (by omega) (by decide)) dX11_number_50 ?_
        refine v_callSi C c_X11_isDigit mt_X11_isDigit lk_RX11_180 rfl rfl rfl rfl rfl dX11_number_51 ?_
        refine v_if_eq 99 C dX11_number_54 (by decide) (fun h54 => ?_) (fun h54 => ?_)
        · have hf2 : (k, c, v) = (numM (I 77) n (n - (seeJ I n i)) (seeJ I n i) 0 0) := by first | (have hd : wI (I 77 k) 48 57 = 0 := h54; rw [← hf]; simp [numM, pdig, hd]; done) | (have hkn := nI_le_of h39 (by omega) (by omega); obtain rfl : f = 0 := (by omega); exact hf)
          rw [← hf2] at hx
          exact hx
        · have hd : ¬ wI (I 77 k) 48 57 = 0 := h54
          refine v_iload C dX11_number_57 rfl ?_
          refine v_iconst 3 C dX11_number_59 (by decide) ?_
          refine v_icmp_ge 83 C dX11_number_60 (by decide) (fun h60 => ?_) (fun h60 => ?_)
          · refine v_iinc (c + 1) C dX11_number_83 rfl rfl (Nat.le_of_ble_eq_true rfl) rfl ?_
            refine v_aload_n C dX11_number_86 rfl ?_
            refine v_dupr C dX11_number_87 ?_
            refine v_getI C fl_RX11_173 rfl (hs.1 47 _ rfl) dX11_number_88 ?_
            refine v_iconst 1 C dX11_number_91 (by decide) ?_
            refine v_iadd C dX11_number_92 ?_
            refine v_putI C fl_RX11_173 rfl (hs.1 47 _ rfl) dX11_number_93 ?_
            refine v_eqI (show _ = iu I 47 40 (nI (k + 1)) by rw [iu_iu, iu_same, nI_1]) ?_
            refine v_goto 31 C dX11_number_96 (by decide) ?_
            exact ih f (k + 1) _ _ (lt_fuel hfuel) (by omega) (by rw [← hf]; simp [numM, pdig, hkn, hd, h60, iu_ap]) hx
          · refine v_bipush 10 C dX11_number_63 (by decide) ?_
            refine v_iload C dX11_number_65 rfl ?_
            refine v_imul C dX11_number_67 ?_
            refine v_aload_n C dX11_number_68 rfl ?_
            refine v_getR 77 C fl_RX11_98 rfl (hs.1 47 _ rfl) (hs.2 47 38 77 rfl) dX11_number_69 ?_
            refine v_aload_n C dX11_number_72 rfl ?_
            refine v_getI C fl_RX11_173 rfl (hs.1 47 _ rfl) dX11_number_73 ?_
            refine v_baload k C (hs.1 77 _ rfl) (at_e (show iu I 47 40 (nI k) 47 40 = nI k from iu_same) (by omega) (by decide)) dX11_number_76 ?_
            refine v_iadd C dX11_number_77 ?_
            refine v_bipush 48 C dX11_number_78 (by decide) ?_
            refine v_isub C dX11_number_80 ?_
            refine v_istore C dX11_number_81 (Nat.le_of_ble_eq_true rfl) rfl ?_
            refine v_iinc (c + 1) C dX11_number_83 rfl rfl (Nat.le_of_ble_eq_true rfl) rfl ?_
            refine v_aload_n C dX11_number_86 rfl ?_
            refine v_dupr C dX11_number_87 ?_
            refine v_getI C fl_RX11_173 rfl (hs.1 47 _ rfl) dX11_number_88 ?_
            refine v_iconst 1 C dX11_number_91 (by decide) ?_
            refine v_iadd C dX11_number_92 ?_
            refine v_putI C fl_RX11_173 rfl (hs.1 47 _ rfl) dX11_number_93 ?_
            refine v_eqI (show _ = iu I 47 40 (nI (k + 1)) by rw [iu_iu, iu_same, nI_1]) ?_
            refine v_goto 31 C dX11_number_96 (by decide) ?_
            exact ih f (k + 1) _ _ (lt_fuel hfuel) (by omega) (by rw [← hf]; simp [numM, pdig, hkn, hd, h60, iu_ap]) hx
  refine v_aload_n C dX11_number_0 rfl ?_
  refine v_callVi C (c_X11_see hs hn hl hi_ hin) mt_X11_see lk_RX11_176 rfl rfl (hs.1 47 _ rfl) rfl rfl rfl rfl rfl dX11_number_1 ?_
  refine v_callSi C c_X11_isDigit mt_X11_isDigit lk_RX11_180 rfl rfl rfl rfl rfl dX11_number_4 ?_
  refine v_if_ne 20 C dX11_number_7 (by decide) (fun h7 => ?_) (fun h7 => ?_)
  · refine v_aload_n C dX11_number_20 rfl ?_
    refine v_getI C fl_RX11_173 rfl (hs.1 47 _ rfl) dX11_number_21 ?_
    refine v_eqi iu_same ?_
    refine v_istore_n C dX11_number_24 (Nat.le_of_ble_eq_true rfl) rfl ?_
    refine v_iconst 0 C dX11_number_25 (by decide) ?_
    refine v_istore C dX11_number_26 (Nat.le_of_ble_eq_true rfl) rfl ?_
    refine v_iconst 0 C dX11_number_28 (by decide) ?_
    refine v_istore C dX11_number_29 (Nat.le_of_ble_eq_true rfl) rfl ?_
    have hJ1 : i ≤ seeJ I n i := scan_ge _ _ _ _ _
    have hJ2 : seeJ I n i ≤ n := scan_le _ _ _ _ _ hin
    refine loop (n - seeJ I n i + 1) (n - seeJ I n i) (seeJ I n i) 0 0 (Nat.lt_succ_self _) (by omega) rfl ?_
    refine v_aload_n C dX11_number_99 rfl ?_
    refine v_iload C dX11_number_100 rfl ?_
    refine v_putI C fl_RX11_188 rfl (hs.1 47 _ rfl) dX11_number_102 ?_
    refine v_iload C dX11_number_105 rfl ?_
    refine v_iconst 3 C dX11_number_107 (by decide) ?_
    refine v_icmp_gt 121 C dX11_number_108 (by decide) (fun h108 => ?_) (fun h108 => ?_)
    · refine v_aload_n C dX11_number_121 rfl ?_
      refine v_iconst 1 C dX11_number_122 (by decide) ?_
      refine v_iload_n C dX11_number_123 rfl ?_
      refine v_callVi C (c_X11_fails hs) mt_X11_fails lk_RX11_184 rfl rfl (hs.1 47 _ rfl) rfl rfl rfl rfl rfl dX11_number_124 ?_
      refine v_if_eq 134 C dX11_number_127 (by decide) (fun _ => ?_) (fun h127 => absurd h127 (by decide))
      refine v_iconst 0 C dX11_number_134 (by decide) ?_
      exact v_zret C (Or.inl rfl) dX11_number_135 (by first | (refine ⟨?_, rfl, ?_, rfl, rfl⟩ <;> simp [nbR, nbI, nbB, h7, h108, h118]; done) | (refine ⟨?_, rfl, ?_, rfl, rfl⟩ <;> simp [nbR, nbI, nbB, h7, h108]; done))
    · refine v_iload C dX11_number_111 rfl ?_
      refine v_iload_n C dX11_number_113 rfl ?_
      refine v_iload_n C dX11_number_114 rfl ?_
      refine v_callSi C c_X11_in mt_X11_in lk_RX11_140 rfl rfl rfl rfl rfl dX11_number_115 ?_
      refine v_if_ne 130 C dX11_number_118 (by decide) (fun h118 => ?_) (fun h118 => ?_)
      · refine v_iconst 1 C dX11_number_130 (by decide) ?_
        refine v_goto 135 C dX11_number_131 (by decide) ?_
        exact v_zret C (Or.inr rfl) dX11_number_135 (by first | (refine ⟨?_, rfl, ?_, rfl, rfl⟩ <;> simp [nbR, nbI, nbB, h7, h108, h118]; done) | (refine ⟨?_, rfl, ?_, rfl, rfl⟩ <;> simp [nbR, nbI, nbB, h7, h108]; done))
      · refine v_aload_n C dX11_number_121 rfl ?_
        refine v_iconst 1 C dX11_number_122 (by decide) ?_
        refine v_iload_n C dX11_number_123 rfl ?_
        refine v_callVi C (c_X11_fails hs) mt_X11_fails lk_RX11_184 rfl rfl (hs.1 47 _ rfl) rfl rfl rfl rfl rfl dX11_number_124 ?_
        refine v_if_eq 134 C dX11_number_127 (by decide) (fun _ => ?_) (fun h127 => absurd h127 (by decide))
        refine v_iconst 0 C dX11_number_134 (by decide) ?_
        exact v_zret C (Or.inl rfl) dX11_number_135 (by first | (refine ⟨?_, rfl, ?_, rfl, rfl⟩ <;> simp [nbR, nbI, nbB, h7, h108, h118]; done) | (refine ⟨?_, rfl, ?_, rfl, rfl⟩ <;> simp [nbR, nbI, nbB, h7, h108]; done))
  · refine v_aload_n C dX11_number_10 rfl ?_
    refine v_iconst 0 C dX11_number_11 (by decide) ?_
    refine v_aload_n C dX11_number_12 rfl ?_
    refine v_getI C fl_RX11_173 rfl (hs.1 47 _ rfl) dX11_number_13 ?_
    refine v_eqi iu_same ?_
    refine v_callVi C (c_X11_fails hs) mt_X11_fails lk_RX11_184 rfl rfl (hs.1 47 _ rfl) rfl rfl rfl rfl rfl dX11_number_16 ?_
    exact v_zret C (Or.inl rfl) dX11_number_19 ⟨by simp [nbR, h7], rfl, by simp [nbI, h7], rfl, rfl⟩

set_option maxHeartbeats 4000000 in
set_option maxRecDepth 100000 in
theorem c_X11_isTwice {lnc : Launch} {E : En} {sh : List Sh} {I : IM} {J : JM} {R : RM} {a b z : Nat} (hs : St sh R) (hz : I 47 45 = nI z) (hzl : z ≤ 8) (hb : a + b ≤ 200) (hwk : ∀ k, k < z → I 83 k = nI b → I 82 k = nI (ix (I 82 k)) ∧ ix (I 82 k) + b ≤ 200) : Ct lnc E yX11_isTwice cX11_isTwice 6 (some .boolean) 0 0 [.ref 47, .int (nI a), .int (nI b)] sh I J R 0 0 (m_ret (some (.int (twF (I 77) (I 82) (I 83) a b z 0))) sh I J R) := by
  refine Ct.of (lv := [some (.ref 47), some (.int (nI a)), some (.int (nI b)), none, none, none]) (by decide) (Nat.le_of_ble_eq_true rfl) rfl (fun X hX C => ?_)
  have inner : ∀ (fuel : Nat) (k m j : Nat), m < fuel → k < z → I 82 k = nI (ix (I 82 k)) → ix (I 82 k) + b ≤ 200 → j + m = b → V E X (m_Z E X (m_ret (some (.int (twF (I 77) (I 82) (I 83) a b z 0))) sh I J R) 0 0) 0 0 sh I J R 80 [some (.ref 47), some (.int (nI a)), some (.int (nI b)), some (.int (nI k)), some (.int (sameF (I 77) (ix (I 82 k)) a m j)), none] [] → V E X (m_Z E X (m_ret (some (.int (twF (I 77) (I 82) (I 83) a b z 0))) sh I J R) 0 0) 0 0 sh I J R 30 [some (.ref 47), some (.int (nI a)), some (.int (nI b)), some (.int (nI k)), some (.int 1), some (.int (nI j))] [] := by
    intro fuel
    induction fuel with
    | zero => intro k m j hfuel; exact absurd hfuel (Nat.not_lt_zero _)
    | succ fuel ih =>
      intro k m j hfuel hkz hra hrl hj hx
      refine v_iload C dX11_isTwice_30 rfl ?_
      refine v_if_eq 80 C dX11_isTwice_32 (by decide) (fun h32 => absurd h32 (by decide)) (fun _ => ?_)
      refine v_iload C dX11_isTwice_35 rfl ?_
      refine v_iload_n C dX11_isTwice_37 rfl ?_
      refine v_icmp_ge 80 C dX11_isTwice_38 (by decide) (fun h38 => ?_) (fun h38 => ?_)
      · have hjb := nI_le_of h38 (by omega) (by omega)
        obtain rfl : m = 0 := by omega
        exact v_drop 5 hx
      · have hjb := nI_lt_of h38 (by omega)
        obtain ⟨m, rfl⟩ : ∃ m2, m = m2 + 1 := ⟨m - 1, by omega⟩
        refine v_aload_n C dX11_isTwice_41 rfl ?_
        refine v_getR 77 C fl_RX11_98 rfl (hs.1 47 _ rfl) (hs.2 47 38 77 rfl) dX11_isTwice_42 ?_
        refine v_aload_n C dX11_isTwice_45 rfl ?_
        refine v_getR 82 C fl_RX11_114 rfl (hs.1 47 _ rfl) (hs.2 47 48 82 rfl) dX11_isTwice_46 ?_
        refine v_iload_n C dX11_isTwice_49 rfl ?_
        refine v_iaload k C (hs.1 82 _ rfl) (at_nI (by omega) (by decide)) dX11_isTwice_50 ?_
        refine v_eqi hra ?_
        refine v_iload C dX11_isTwice_51 rfl ?_
        refine v_iadd C dX11_isTwice_53 ?_
        refine v_baload (ix (I 82 k) + j) C (hs.1 77 _ rfl) (at_e (nI_add _ j) (by omega) (by decide)) dX11_isTwice_54 ?_
        refine v_aload_n C dX11_isTwice_55 rfl ?_
        refine v_getR 77 C fl_RX11_98 rfl (hs.1 47 _ rfl) (hs.2 47 38 77 rfl) dX11_isTwice_56 ?_
        refine v_iload_n C dX11_isTwice_59 rfl ?_
        refine v_iload C dX11_isTwice_60 rfl ?_
        refine v_iadd C dX11_isTwice_62 ?_
        refine v_baload (a + j) C (hs.1 77 _ rfl) (at_e (nI_add a j) (by omega) (by decide)) dX11_isTwice_63 ?_
        refine v_icmp_ne 71 C dX11_isTwice_64 (by decide) (fun h64 => ?_) (fun h64 => ?_)
        · refine v_iconst 0 C dX11_isTwice_71 (by decide) ?_
          refine v_istore C dX11_isTwice_72 (Nat.le_of_ble_eq_true rfl) rfl ?_
          refine v_iinc (nI (j + 1)) C dX11_isTwice_74 rfl (nI_1 j) (Nat.le_of_ble_eq_true rfl) rfl ?_
          refine v_goto 30 C dX11_isTwice_77 (by decide) ?_
          refine v_iload C dX11_isTwice_30 rfl ?_
          refine v_if_eq 80 C dX11_isTwice_32 (by decide) (fun _ => ?_) (fun h => absurd rfl h)
          exact v_drop 5 (by simpa [sameF, h64] using hx)
        · refine v_iconst 1 C dX11_isTwice_67 (by decide) ?_
          refine v_goto 72 C dX11_isTwice_68 (by decide) ?_
          refine v_istore C dX11_isTwice_72 (Nat.le_of_ble_eq_true rfl) rfl ?_
          refine v_iinc (nI (j + 1)) C dX11_isTwice_74 rfl (nI_1 j) (Nat.le_of_ble_eq_true rfl) rfl ?_
          refine v_goto 30 C dX11_isTwice_77 (by decide) ?_
          exact ih k m (j + 1) (lt_fuel hfuel) hkz hra hrl (by omega) (by simpa [sameF, h64] using hx)
  have loop : ∀ (fuel : Nat) (m k : Nat), m < fuel → k + m = z → twF (I 77) (I 82) (I 83) a b m k = twF (I 77) (I 82) (I 83) a b z 0 → V E X (m_Z E X (m_ret (some (.int (twF (I 77) (I 82) (I 83) a b z 0))) sh I J R) 0 0) 0 0 sh I J R 2 [some (.ref 47), some (.int (nI a)), some (.int (nI b)), some (.int (nI k)), none, none] [] := by
    intro fuel
    induction fuel with
    | zero => intro m k hfuel; exact absurd hfuel (Nat.not_lt_zero _)
    | succ fuel ih =>
      intro m k hfuel hk hf
      refine v_iload_n C dX11_isTwice_2 rfl ?_
      refine v_aload_n C dX11_isTwice_3 rfl ?_
      refine v_getI C fl_RX11_191 rfl (hs.1 47 _ rfl) dX11_isTwice_4 ?_
      rw [hz]
      refine v_icmp_ge 93 C dX11_isTwice_7 (by decide) (fun h7 => ?_) (fun h7 => ?_)
      · have hkn := nI_le_of h7 (by omega) (by omega)
        obtain rfl : m = 0 := by omega
        refine v_iconst 0 C dX11_isTwice_93 (by decide) ?_
        exact v_zret C (Or.inl rfl) dX11_isTwice_94 ⟨by rw [← hf]; rfl, rfl, rfl, rfl, rfl⟩
      · have hkn := nI_lt_of h7 (by omega)
        obtain ⟨m, rfl⟩ : ∃ m2, m = m2 + 1 := ⟨m - 1, by omega⟩
        refine v_aload_n C dX11_isTwice_10 rfl ?_
        refine v_getR 83 C fl_RX11_117 rfl (hs.1 47 _ rfl) (hs.2 47 49 83 rfl) dX11_isTwice_11 ?_
        refine v_iload_n C dX11_isTwice_14 rfl ?_
        refine v_iaload k C (hs.1 83 _ rfl) (at_nI (by omega) (by decide)) dX11_isTwice_15 ?_
        refine v_iload_n C dX11_isTwice_16 rfl ?_
        refine v_icmp_ne 24 C dX11_isTwice_17 (by decide) (fun h17 => ?_) (fun h17 => ?_)
        · refine v_iconst 0 C dX11_isTwice_24 (by decide) ?_
          refine v_istore C dX11_isTwice_25 (Nat.le_of_ble_eq_true rfl) rfl ?_
          refine v_iconst 0 C dX11_isTwice_27 (by decide) ?_
          refine v_istore C dX11_isTwice_28 (Nat.le_of_ble_eq_true rfl) rfl ?_
          refine v_iload C dX11_isTwice_30 rfl ?_
          refine v_if_eq 80 C dX11_isTwice_32 (by decide) (fun _ => ?_) (fun h32 => absurd h32 (by decide))
          refine v_iload C dX11_isTwice_80 rfl ?_
          refine v_if_eq 87 C dX11_isTwice_82 (by decide) (fun _ => ?_) (fun h82 => absurd h82 (by decide))
          refine v_iinc (nI (k + 1)) C dX11_isTwice_87 rfl (nI_1 k) (Nat.le_of_ble_eq_true rfl) rfl ?_
          refine v_goto 2 C dX11_isTwice_90 (by decide) ?_
          refine v_drop 4 ?_
          refine v_drop 5 ?_
          exact ih m (k + 1) (lt_fuel hfuel) (by omega) (by rw [← hf]; first | simp [twF, h17, h82] | simp [twF, h17])
        · refine v_iconst 1 C dX11_isTwice_20 (by decide) ?_
          refine v_goto 25 C dX11_isTwice_21 (by decide) ?_
          refine v_istore C dX11_isTwice_25 (Nat.le_of_ble_eq_true rfl) rfl ?_
          refine v_iconst 0 C dX11_isTwice_27 (by decide) ?_
          refine v_istore C dX11_isTwice_28 (Nat.le_of_ble_eq_true rfl) rfl ?_
          have hw := hwk k hkn h17
          refine inner (b + 1) k b 0 (Nat.lt_succ_self _) hkn hw.1 hw.2 (by omega) ?_
          refine v_iload C dX11_isTwice_80 rfl ?_
          refine v_if_eq 87 C dX11_isTwice_82 (by decide) (fun h82 => ?_) (fun h82 => ?_)
          · refine v_iinc (nI (k + 1)) C dX11_isTwice_87 rfl (nI_1 k) (Nat.le_of_ble_eq_true rfl) rfl ?_
            refine v_goto 2 C dX11_isTwice_90 (by decide) ?_
            refine v_drop 4 ?_
            refine v_drop 5 ?_
            exact ih m (k + 1) (lt_fuel hfuel) (by omega) (by rw [← hf]; first | simp [twF, h17, h82] | simp [twF, h17])
          · refine v_iconst 1 C dX11_isTwice_85 (by decide) ?_
            exact v_zret C (Or.inr rfl) dX11_isTwice_86 ⟨by rw [← hf]; simp [twF, h17, h82], rfl, rfl, rfl, rfl⟩
  refine v_iconst 0 C dX11_isTwice_0 (by decide) ?_
  refine v_istore_n C dX11_isTwice_1 (Nat.le_of_ble_eq_true rfl) rfl ?_
  exact loop (z + 1) z 0 (Nat.lt_succ_self _) (by omega) rfl
