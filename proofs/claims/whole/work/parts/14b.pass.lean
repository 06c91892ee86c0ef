set_option maxHeartbeats 4000000 in
set_option maxRecDepth 100000 in
theorem c_X10_pass {lnc : Launch} {E : En} {sh : List Sh} {I : IM} {J : JM} {R : RM} {n : Nat} {l0 l1 l2 : List Nat} {h : Int32} (hs : St sh R) (hn : I 4 3 = nI n) (hl : n ≤ 20) (hB0 : BayOK sh I R 31 32 l0) (hB1 : BayOK sh I R 33 34 l1) (hB2 : BayOK sh I R 35 36 l2) : Ct lnc E yX10_pass cX10_pass 3 (some .int) 4 89 [.ref 0, .int h] sh I J R 0 0 (passQ sh J R I n l0 l1 l2 h) := by
  refine Ct.of (lv := [some (.ref 0), some (.int h), none]) (by decide) (Nat.le_of_ble_eq_true rfl) rfl (fun X hX C => ?_)
  refine v_iload_n C dX10_pass_0 rfl ?_
  refine v_iconst 1 C dX10_pass_1 (by decide) ?_
  refine v_sipush 500 C dX10_pass_2 (by decide) ?_
  refine v_callSi C c_X10_within mt_X10_within lk_RX10_88 rfl rfl rfl rfl rfl dX10_pass_5 ?_
  refine v_if_eq 23 C dX10_pass_8 (by decide) (fun h8 => ?_) (fun h8 => ?_)
  · refine v_iconst (-1) C dX10_pass_23 (by decide) ?_
    exact v_iret C dX10_pass_24 ⟨fun _ => m_ret_rf, fun g1 g2 => absurd g1 (by first | exact fun _ => h20 g2 | exact fun q => q h8)⟩
  · refine v_aload_n C dX10_pass_11 rfl ?_
    refine v_getI C fl_RX10_211 rfl (hs.1 0 _ rfl) dX10_pass_12 ?_
    refine v_iload_n C dX10_pass_15 rfl ?_
    refine v_iadd C dX10_pass_16 ?_
    refine v_sipush 5000 C dX10_pass_17 (by decide) ?_
    refine v_icmp_le 25 C dX10_pass_20 (by decide) (fun h20 => ?_) (fun h20 => ?_)
    · refine v_iconst 0 C dX10_pass_25 (by decide) ?_
      refine v_istore_n C dX10_pass_26 (Nat.le_of_ble_eq_true rfl) rfl ?_
      have heq := hrs h8
      have loop : ∀ (fuel : Nat) (m q : Nat) (s : CS) (Ri : RM), m < fuel → q + m = ix h → passC n m s = passC n (ix h) (I, l0, l1, l2) → PInv sh R n s Ri → V E X (m_Z E X (passQ sh J R I n l0 l1 l2 h) 0 0) 0 0 sh s.1 J Ri 27 [some (.ref 0), some (.int h), some (.int (nI q))] [] := by
        intro fuel
        induction fuel with
        | zero => intro m q s Ri hfuel; exact absurd hfuel (Nat.not_lt_zero _)
        | succ fuel ih =>
          intro m q s Ri hfuel hk hf hI
          refine v_iload_n C dX10_pass_27 rfl ?_
          refine v_iload_n C dX10_pass_28 rfl ?_
          refine v_eqi heq.1 ?_
          refine v_icmp_ge 42 C dX10_pass_29 (by decide) (fun h29 => ?_) (fun h29 => ?_)
          · have hqn := nI_le_of h29 (by omega) (by omega)
            obtain rfl : m = 0 := by omega
            have hs := hI.1
            have hf : s = passC n (ix h) (I, l0, l1, l2) := hf
            refine v_aload_n C dX10_pass_42 rfl ?_
            refine v_getR 4 C fl_RX10_19 rfl (hs.1 0 _ rfl) (hs.2 0 1 4 rfl) dX10_pass_43 ?_
            refine v_getI C fl_RX10_122 rfl (hs.1 4 _ rfl) dX10_pass_46 ?_
            exact v_iret C dX10_pass_49 ⟨fun hh => absurd hh (by rintro (hh | hh); exact h8 hh; exact hh h20), fun _ _ => ⟨by rw [← hf], rfl, by rw [← hf], rfl, by rw [← hf]; exact hI⟩⟩
          · have hqn := nI_lt_of h29 (by omega)
            obtain ⟨m, rfl⟩ : ∃ m2, m = m2 + 1 := ⟨m - 1, by omega⟩
            refine v_aload_n C dX10_pass_32 rfl ?_
            refine v_callV C (c_X10_stepHour (n := n) (l0 := s.2.1) (l1 := s.2.2.1) (l2 := s.2.2.2) hI.1 hI.2.1 hl hI.2.2.1 hI.2.2.2.1 hI.2.2.2.2.1) mt_X10_stepHour lk_RX10_214 rfl rfl (hs.1 0 _ rfl) rfl rfl rfl (Nat.le_of_ble_eq_true rfl) (rmB_ok rfl) dX10_pass_33 ?_
            intro v sh1 I1 J1 R1 hQ
            have hP := hI.step hQ
            obtain ⟨rfl, rfl, hI1, rfl, hR0, hR1, hR2, hO⟩ := hQ
            refine v_iinc (nI (q + 1)) C dX10_pass_36 rfl (nI_1 q) (Nat.le_of_ble_eq_true rfl) rfl ?_
            refine v_goto 27 C dX10_pass_39 (by decide) ?_
            refine v_eqI hI1 ?_
            exact ih m (q + 1) (stepC n s) R1 (lt_fuel hfuel) (by omega) hf hP
      exact loop (ix h + 1) (ix h) 0 (I, l0, l1, l2) R (Nat.lt_succ_self _) (by omega) rfl ⟨hs, hn, hB0, hB1, hB2, fun _ _ _ _ => rfl⟩
    · refine v_iconst (-1) C dX10_pass_23 (by decide) ?_
      exact v_iret C dX10_pass_24 ⟨fun _ => m_ret_rf, fun g1 g2 => absurd g1 (by first | exact fun _ => h20 g2 | exact fun q => q h8)⟩

set_option maxHeartbeats 4000000 in
set_option maxRecDepth 100000 in
theorem c_X11_pass {lnc : Launch} {E : En} {sh : List Sh} {I : IM} {J : JM} {R : RM} {n np : Nat} {h : Int32} (hs : St sh R) (hn : I 47 8 = nI n) (hl : n ≤ 20) (hp : I 47 27 = nI np) (hpl : np ≤ 1000) (hb : BayM np 0 I) : Ct lnc E yX11_pass cX11_pass 3 (some .int) 2 44 [.ref 47, .int h] sh I J R 0 0 (m_ret (some (.int (passRm I n np h))) sh (passIm I n np h) J R) := by
  refine Ct.of (lv := [some (.ref 47), some (.int h), none]) (by decide) (Nat.le_of_ble_eq_true rfl) rfl (fun X hX C => ?_)
  refine v_iload_n C dX11_pass_0 rfl ?_
  refine v_iconst 1 C dX11_pass_1 (by decide) ?_
  refine v_sipush 500 C dX11_pass_2 (by decide) ?_
  refine v_callSi C c_X11_in mt_X11_in lk_RX11_140 rfl rfl rfl rfl rfl dX11_pass_5 ?_
  refine v_if_eq 23 C dX11_pass_8 (by decide) (fun h8 => ?_) (fun h8 => ?_)
  · refine v_iconst (-1) C dX11_pass_23 (by decide) ?_
    exact v_iret C dX11_pass_24 ⟨by simp [passRm, *], rfl, by simp [passIm, *], rfl, rfl⟩
  · refine v_aload_n C dX11_pass_11 rfl ?_
    refine v_getI C fl_RX11_144 rfl (hs.1 47 _ rfl) dX11_pass_12 ?_
    refine v_iload_n C dX11_pass_15 rfl ?_
    refine v_iadd C dX11_pass_16 ?_
    refine v_sipush 5000 C dX11_pass_17 (by decide) ?_
    refine v_icmp_le 25 C dX11_pass_20 (by decide) (fun h20 => ?_) (fun h20 => ?_)
    · refine v_iconst 0 C dX11_pass_25 (by decide) ?_
      refine v_istore_n C dX11_pass_26 (Nat.le_of_ble_eq_true rfl) rfl ?_
      have heq := hrs h8
      have loop : ∀ (fuel : Nat) (m q : Nat) (Ii : IM), m < fuel → q + m = ix h → passM n np m Ii = passM n np (ix h) I → Ii 47 8 = nI n → Ii 47 27 = nI np → BayM np 0 Ii → V E X (m_Z E X (m_ret (some (.int (passRm I n np h))) sh (passIm I n np h) J R) 0 0) 0 0 sh Ii J R 27 [some (.ref 47), some (.int h), some (.int (nI q))] [] := by
        intro fuel
        induction fuel with
        | zero => intro m q Ii hfuel; exact absurd hfuel (Nat.not_lt_zero _)
        | succ fuel ih =>
          intro m q Ii hfuel hk hf h8i hpi hbi
          refine v_iload_n C dX11_pass_27 rfl ?_
          refine v_iload_n C dX11_pass_28 rfl ?_
          refine v_eqi heq.1 ?_
          refine v_icmp_ge 42 C dX11_pass_29 (by decide) (fun h29 => ?_) (fun h29 => ?_)
          · have hqn := nI_le_of h29 (by omega) (by omega)
            obtain rfl : m = 0 := by omega
            have hf : Ii = passM n np (ix h) I := hf
            refine v_aload_n C dX11_pass_42 rfl ?_
            refine v_getI C fl_RX11_160 rfl (hs.1 47 _ rfl) dX11_pass_43 ?_
            exact v_iret C dX11_pass_46 ⟨by rw [passRm, if_neg h8, if_pos h20, ← hf], rfl, by rw [passIm, if_neg h8, if_pos h20, ← hf], rfl, rfl⟩
          · have hqn := nI_lt_of h29 (by omega)
            obtain ⟨m, rfl⟩ : ∃ m2, m = m2 + 1 := ⟨m - 1, by omega⟩
            refine v_aload_n C dX11_pass_32 rfl ?_
            refine v_callVv C (c_X11_hour (n := n) (np := np) hs h8i hl hpi hpl hbi) mt_X11_hour lk_RX11_226 rfl rfl (hs.1 47 _ rfl) rfl rfl rfl rfl rfl dX11_pass_33 ?_
            refine v_iinc (nI (q + 1)) C dX11_pass_36 rfl (nI_1 q) (Nat.le_of_ble_eq_true rfl) rfl ?_
            refine v_goto 27 C dX11_pass_39 (by decide) ?_
            exact ih m (q + 1) (hourM n np Ii) (lt_fuel hfuel) (by omega) hf (by rw [hourM_48 8 (by decide) (by decide) (by decide)]; exact h8i) (by rw [hourM_48 27 (by decide) (by decide) (by decide)]; exact hpi) hbi.hour
      exact loop (ix h + 1) (ix h) 0 I (Nat.lt_succ_self _) (by omega) rfl hn hp hb
    · refine v_iconst (-1) C dX11_pass_23 (by decide) ?_
      exact v_iret C dX11_pass_24 ⟨by simp [passRm, *], rfl, by simp [passIm, *], rfl, rfl⟩
