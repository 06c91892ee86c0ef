set_option maxHeartbeats 4000000 in
set_option maxRecDepth 100000 in
theorem c_X10_spans {lnc : Launch} {E : En} {sh : List Sh} {I : IM} {J : JM} {R : RM} {n : Nat} (hs : St sh R) (hn : I 8 5 = nI n) (hl : n ≤ 200) : Ct lnc E yX10_spans cX10_spans 1 (some .int) 4 93 [.ref 0] sh I J R 0 0 (m_ret (some (.int (spansR I n))) sh (spansI I n) J R) := by
  refine Ct.of (lv := [some (.ref 0)]) (by decide) (Nat.le_of_ble_eq_true rfl) rfl (fun X hX C => ?_)
  obtain ⟨z, hzl, hz⟩ := read_z hn
  refine v_aload_n C dX10_spans_0 rfl ?_
  refine v_getR 8 C fl_RX10_26 rfl (hs.1 0 _ rfl) (hs.2 0 2 8 rfl) dX10_spans_1 ?_
  refine v_callVv C (c_X9_read hs hn hl) mt_X9_read lk_RX10_134 rfl rfl (hs.1 8 _ rfl) rfl rfl rfl rfl rfl dX10_spans_4 ?_
  refine v_aload_n C dX10_spans_7 rfl ?_
  refine v_getR 8 C fl_RX10_26 rfl (hs.1 0 _ rfl) (hs.2 0 2 8 rfl) dX10_spans_8 ?_
  refine v_iconst 0 C dX10_spans_11 (by decide) ?_
  refine v_putI C fl_RX10_131 rfl (hs.1 8 _ rfl) dX10_spans_12 ?_
  refine v_aload_n C dX10_spans_15 rfl ?_
  refine v_getR 8 C fl_RX10_26 rfl (hs.1 0 _ rfl) (hs.2 0 2 8 rfl) dX10_spans_16 ?_
  refine v_getI C fl_RX10_137 rfl (hs.1 8 _ rfl) dX10_spans_19 ?_
  refine v_eqi (show _ = readI I n 8 8 from rfl) ?_
  refine v_if_eq 36 C dX10_spans_22 (by decide) (fun h22 => ?_) (fun h22 => ?_)
  · refine v_aload_n C dX10_spans_36 rfl ?_
    refine v_getR 14 C fl_RX10_33 rfl (hs.1 0 _ rfl) (hs.2 0 3 14 rfl) dX10_spans_37 ?_
    refine v_aload_n C dX10_spans_40 rfl ?_
    refine v_getR 8 C fl_RX10_26 rfl (hs.1 0 _ rfl) (hs.2 0 2 8 rfl) dX10_spans_41 ?_
    refine v_callVv C (c_X1_take (z := z) hs hz hzl) mt_X1_take lk_RX10_140 rfl rfl (hs.1 14 _ rfl) rfl rfl rfl rfl rfl dX10_spans_44 ?_
    refine v_aload_n C dX10_spans_47 rfl ?_
    refine v_getR 14 C fl_RX10_33 rfl (hs.1 0 _ rfl) (hs.2 0 3 14 rfl) dX10_spans_48 ?_
    refine v_getI C fl_RX10_144 rfl (hs.1 14 _ rfl) dX10_spans_51 ?_
    refine v_eqi (show _ = readI I n 8 6 from by rw [takeL_o (by decide) (by decide), iu_same]; rfl) ?_
    exact v_iret C dX10_spans_54 ⟨congrArg (fun x => some (Value.int x)) (if_pos h22).symm, rfl, by unfold spansI; rw [if_pos h22, hz, show ix (nI z) = z from nI_clamp (by omega)]; show takeL z 0 (iu (iu (readI I n) 8 5 0) 14 2 (readI I n 8 6)) = _; rw [hz], rfl, rfl⟩
  · refine v_bipush (-2) C dX10_spans_25 (by decide) ?_
    refine v_aload_n C dX10_spans_27 rfl ?_
    refine v_getR 8 C fl_RX10_26 rfl (hs.1 0 _ rfl) (hs.2 0 2 8 rfl) dX10_spans_28 ?_
    refine v_getI C fl_RX10_137 rfl (hs.1 8 _ rfl) dX10_spans_31 ?_
    refine v_isub C dX10_spans_34 ?_
    exact v_iret C dX10_spans_35 ⟨congrArg (fun x => some (Value.int x)) (if_neg h22).symm, rfl, (if_neg h22).symm, rfl, rfl⟩

set_option maxHeartbeats 4000000 in
set_option maxRecDepth 100000 in
theorem c_X11_spans {lnc : Launch} {E : En} {sh : List Sh} {I : IM} {J : JM} {R : RM} {n : Nat} (hs : St sh R) (hn : I 47 39 = nI n) (hl : n ≤ 200) : Ct lnc E yX11_spans cX11_spans 4 (some .int) 3 70 [.ref 47] sh I J R 0 0 (m_ret (some (.int (spansMR I n))) sh (spansMI I n) J R) := by
  refine Ct.of (lv := [some (.ref 47), none, none, none]) (by decide) (Nat.le_of_ble_eq_true rfl) rfl (fun X hX C => ?_)
  have fin : ∀ (Ii : IM) (g mo : Int32), (g, Ii) = readM I n → (¬ g = 0 → ∃ z, z ≤ 8 ∧ Ii 47 45 = nI z) → V E X (m_Z E X (m_ret (some (.int (spansMR I n))) sh (spansMI I n) J R) 0 0) 0 0 sh Ii J R 102 [some (.ref 47), some (.int g), some (.int mo), none] [] := by
    intro Ii g mo hP hz
    refine v_aload_n C dX11_spans_102 rfl ?_
    refine v_iconst 0 C dX11_spans_103 (by decide) ?_
    refine v_putI C fl_RX11_163 rfl (hs.1 47 _ rfl) dX11_spans_104 ?_
    refine v_iload_n C dX11_spans_107 rfl ?_
    refine v_if_ne 119 C dX11_spans_108 (by decide) (fun hg => ?_) (fun hg => ?_)
    · refine v_aload_n C dX11_spans_119 rfl ?_
      refine v_aload_n C dX11_spans_120 rfl ?_
      refine v_getI C fl_RX11_191 rfl (hs.1 47 _ rfl) dX11_spans_121 ?_
      refine v_eqi (show _ = Ii 47 45 from rfl) ?_
      refine v_putI C fl_RX11_204 rfl (hs.1 47 _ rfl) dX11_spans_124 ?_
      refine v_iconst 0 C dX11_spans_127 (by decide) ?_
      refine v_istore_n C dX11_spans_128 (Nat.le_of_ble_eq_true rfl) rfl ?_
      obtain ⟨z, hzl, hz⟩ := hz hg
      have loop : ∀ (fuel : Nat) (m k : Nat) (Ii : IM) (g mo : Int32), m < fuel → k + m = z → Ii 47 45 = nI z → Ii 47 42 = nI z → takeM m k Ii = spansMI I n → spansMR I n = nI z → V E X (m_Z E X (m_ret (some (.int (spansMR I n))) sh (spansMI I n) J R) 0 0) 0 0 sh Ii J R 129 [some (.ref 47), some (.int g), some (.int mo), some (.int (nI k))] [] := by
        intro fuel
        induction fuel with
        | zero => intro m k Ii g mo hfuel; exact absurd hfuel (Nat.not_lt_zero _)
        | succ fuel ih =>
          intro m k Ii g mo hfuel hk hz2 hz3 hf hr
          refine v_iload_n C dX11_spans_129 rfl ?_
          refine v_aload_n C dX11_spans_130 rfl ?_
          refine v_getI C fl_RX11_191 rfl (hs.1 47 _ rfl) dX11_spans_131 ?_
          rw [hz2]
          refine v_icmp_ge 167 C dX11_spans_134 (by decide) (fun h134 => ?_) (fun h134 => ?_)
          · have hkn := nI_le_of h134 (by omega) (by omega)
            obtain rfl : m = 0 := by omega
            refine v_aload_n C dX11_spans_167 rfl ?_
            refine v_getI C fl_RX11_204 rfl (hs.1 47 _ rfl) dX11_spans_168 ?_
            refine v_eqi (show _ = spansMR I n from hz3.trans hr.symm) ?_
            exact v_iret C dX11_spans_171 ⟨rfl, rfl, hf, rfl, rfl⟩
          · have hkn := nI_lt_of h134 (by omega)
            obtain ⟨m, rfl⟩ : ∃ m2, m = m2 + 1 := ⟨m - 1, by omega⟩
            refine v_aload_n C dX11_spans_137 rfl ?_
            refine v_getR 78 C fl_RX11_102 rfl (hs.1 47 _ rfl) (hs.2 47 43 78 rfl) dX11_spans_138 ?_
            refine v_iload_n C dX11_spans_141 rfl ?_
            refine v_aload_n C dX11_spans_142 rfl ?_
            refine v_getR 80 C fl_RX11_108 rfl (hs.1 47 _ rfl) (hs.2 47 46 80 rfl) dX11_spans_143 ?_
            refine v_iload_n C dX11_spans_146 rfl ?_
            refine v_iaload k C (hs.1 80 _ rfl) (at_nI (by omega) (by decide)) dX11_spans_147 ?_
            refine v_iastore k C (hs.1 78 _ rfl) (at_nI (by omega) (by decide)) dX11_spans_148 ?_
            refine v_aload_n C dX11_spans_149 rfl ?_
            refine v_getR 79 C fl_RX11_105 rfl (hs.1 47 _ rfl) (hs.2 47 44 79 rfl) dX11_spans_150 ?_
            refine v_iload_n C dX11_spans_153 rfl ?_
            refine v_aload_n C dX11_spans_154 rfl ?_
            refine v_getR 81 C fl_RX11_111 rfl (hs.1 47 _ rfl) (hs.2 47 47 81 rfl) dX11_spans_155 ?_
            refine v_iload_n C dX11_spans_158 rfl ?_
            refine v_iaload k C (hs.1 81 _ rfl) (at_nI (by omega) (by decide)) dX11_spans_159 ?_
            refine v_iastore k C (hs.1 79 _ rfl) (at_nI (by omega) (by decide)) dX11_spans_160 ?_
            refine v_iinc (nI (k + 1)) C dX11_spans_161 rfl (nI_1 k) (Nat.le_of_ble_eq_true rfl) rfl ?_
            refine v_goto 129 C dX11_spans_164 (by decide) ?_
            exact ih m (k + 1) _ g mo (lt_fuel hfuel) (by omega) hz2 hz3 hf hr
      have hg0 : ¬ (readM I n).1 = 0 := by rw [← hP]; exact hg
      exact loop (z + 1) z 0 _ g mo (Nat.lt_succ_self _) (by omega) hz hz (by unfold spansMI; rw [if_neg hg0, ← hP]; show _ = takeM (ix (Ii 47 45)) 0 _; rw [hz, show ix (nI z) = z from nI_clamp (by omega)]; show _ = takeM z 0 (iu (iu Ii 47 39 0) 47 42 (Ii 47 45)); rw [hz]) (by unfold spansMR; rw [if_neg hg0, ← hP]; exact hz)
    · refine v_bipush (-2) C dX11_spans_111 (by decide) ?_
      refine v_aload_n C dX11_spans_113 rfl ?_
      refine v_getI C fl_RX11_170 rfl (hs.1 47 _ rfl) dX11_spans_114 ?_
      refine v_eqi (show _ = (readM I n).2 47 41 from by rw [← hP]; rfl) ?_
      refine v_isub C dX11_spans_117 ?_
      exact v_iret C dX11_spans_118 (by have hg0 : (readM I n).1 = 0 := (by rw [← hP]; exact hg); unfold spansMR spansMI; rw [if_pos hg0, if_pos hg0, ← hP]; exact ⟨rfl, rfl, rfl, rfl, rfl⟩)
  have loop : ∀ (fuel : Nat) (f : Nat) (Ii : IM) (i z : Nat) (g : Int32), f < fuel → z + f = 9 → ¬ g = 0 → MInv Ii n i z → rdM n f Ii i z = readM I n → V E X (m_Z E X (m_ret (some (.int (spansMR I n))) sh (spansMI I n) J R) 0 0) 0 0 sh Ii J R 31 [some (.ref 47), some (.int g), some (.int 1), none] [] := by
    intro fuel
    induction fuel with
    | zero => intro f Ii i z g hfuel; exact absurd hfuel (Nat.not_lt_zero _)
    | succ fuel ih =>
      intro f Ii i z g hfuel hk hg hI hf
      refine v_iload_n C dX11_spans_31 rfl ?_
      refine v_if_eq 102 C dX11_spans_32 (by decide) (fun h32 => False.elim (hg h32)) (fun h32 => ?_)
      refine v_iload_n C dX11_spans_35 rfl ?_
      refine v_if_eq 102 C dX11_spans_36 (by decide) (fun h36 => absurd h36 (by decide)) (fun _ => ?_)
      obtain ⟨f, rfl⟩ : ∃ f2, f = f2 + 1 := ⟨f - 1, by have := hI.2.2.2.2.1; omega⟩
      refine v_aload_n C dX11_spans_39 rfl ?_
      refine v_callVi C (c_X11_span (n := n) (i := i) (z := z) hs hI.1 hl hI.2.1 hI.2.2.1 hI.2.2.2.1 hI.2.2.2.2.1 hI.2.2.2.2.2) mt_X11_span lk_RX11_200 rfl rfl (hs.1 47 _ rfl) rfl rfl rfl rfl rfl dX11_spans_40 ?_
      refine v_istore_n C dX11_spans_43 (Nat.le_of_ble_eq_true rfl) rfl ?_
      refine v_iload_n C dX11_spans_44 rfl ?_
      refine v_if_eq 60 C dX11_spans_45 (by decide) (fun h45 => ?_) (fun h45 => ?_)
      · refine v_iconst 0 C dX11_spans_60 (by decide) ?_
        refine v_istore_n C dX11_spans_61 (Nat.le_of_ble_eq_true rfl) rfl ?_
        refine v_iload_n C dX11_spans_62 rfl ?_
        refine v_if_eq 85 C dX11_spans_63 (by decide) (fun _ => ?_) (fun h63 => absurd h63 (by decide))
        refine v_iload_n C dX11_spans_85 rfl ?_
        refine v_if_eq 31 C dX11_spans_86 (by decide) (fun _ => ?_) (fun h86 => absurd h86 (by decide))
        refine v_iload_n C dX11_spans_31 rfl ?_
        refine v_if_eq 102 C dX11_spans_32 (by decide) (fun h32 => ?_) (fun h32 => ?_)
        · first
            | exact fin _ _ _ (by rw [← hf]; simp [rdM, h45]; done) (fun q => absurd h45 q)
            | exact fin _ _ _ (by rw [← hf]; simp [rdM, h45, hkn, h72]; done) (fun q => absurd rfl q)
            | (have hm := (msR_01 Ii n i z).resolve_left h45
               have hkn : ¬ (spK (Ii 77) n (msE (Ii 77) n i)) < n := seeR_m1.mp h53
               exact fin _ _ _ (by rw [← hf]; simp [rdM, h45, hkn, hm]; done) (fun _ => ⟨z + 1, hS.1.2.2.2.2.1, hS.1.2.2.2.1⟩))
        · refine v_iload_n C dX11_spans_35 rfl ?_
          refine v_if_eq 102 C dX11_spans_36 (by decide) (fun _ => ?_) (fun h36 => absurd h36 (by decide))
          first
            | exact fin _ _ _ (by rw [← hf]; simp [rdM, h45]; done) (fun q => absurd h45 q)
            | exact fin _ _ _ (by rw [← hf]; simp [rdM, h45, hkn, h72]; done) (fun q => absurd rfl q)
            | (have hm := (msR_01 Ii n i z).resolve_left h45
               have hkn : ¬ (spK (Ii 77) n (msE (Ii 77) n i)) < n := seeR_m1.mp h53
               exact fin _ _ _ (by rw [← hf]; simp [rdM, h45, hkn, hm]; done) (fun _ => ⟨z + 1, hS.1.2.2.2.2.1, hS.1.2.2.2.1⟩))
      · have hS := hI.span h45
        have bS := spK_b (T := Ii 77) hS.1.2.2.1
        refine v_aload_n C dX11_spans_48 rfl ?_
        refine v_callVi C (c_X11_see (n := n) (i := (msE (Ii 77) n i)) hs hS.1.1 hl hS.1.2.1 hS.1.2.2.1) mt_X11_see lk_RX11_176 rfl rfl (hs.1 47 _ rfl) rfl rfl rfl rfl rfl dX11_spans_49 ?_
        refine v_eqI (show _ = (iu (msI Ii n i z) 47 40 (nI (spK (Ii 77) n (msE (Ii 77) n i)))) by unfold seeJ; rw [hS.2]; rfl) ?_
        refine v_eqi (show _ = seeR (Ii 77) n (spK (Ii 77) n (msE (Ii 77) n i)) by unfold seeJ; rw [hS.2]; rfl) ?_
        refine v_iconst (-1) C dX11_spans_52 (by decide) ?_
        refine v_icmp_eq 60 C dX11_spans_53 (by decide) (fun h53 => ?_) (fun h53 => ?_)
        · refine v_iconst 0 C dX11_spans_60 (by decide) ?_
          refine v_istore_n C dX11_spans_61 (Nat.le_of_ble_eq_true rfl) rfl ?_
          refine v_iload_n C dX11_spans_62 rfl ?_
          refine v_if_eq 85 C dX11_spans_63 (by decide) (fun _ => ?_) (fun h63 => absurd h63 (by decide))
          refine v_iload_n C dX11_spans_85 rfl ?_
          refine v_if_eq 31 C dX11_spans_86 (by decide) (fun _ => ?_) (fun h86 => absurd h86 (by decide))
          refine v_iload_n C dX11_spans_31 rfl ?_
          refine v_if_eq 102 C dX11_spans_32 (by decide) (fun h32 => ?_) (fun h32 => ?_)
          · first
              | exact fin _ _ _ (by rw [← hf]; simp [rdM, h45]; done) (fun q => absurd h45 q)
              | exact fin _ _ _ (by rw [← hf]; simp [rdM, h45, hkn, h72]; done) (fun q => absurd rfl q)
              | (have hm := (msR_01 Ii n i z).resolve_left h45
                 have hkn : ¬ (spK (Ii 77) n (msE (Ii 77) n i)) < n := seeR_m1.mp h53
                 exact fin _ _ _ (by rw [← hf]; simp [rdM, h45, hkn, hm]; done) (fun _ => ⟨z + 1, hS.1.2.2.2.2.1, hS.1.2.2.2.1⟩))
          · refine v_iload_n C dX11_spans_35 rfl ?_
            refine v_if_eq 102 C dX11_spans_36 (by decide) (fun _ => ?_) (fun h36 => absurd h36 (by decide))
            first
              | exact fin _ _ _ (by rw [← hf]; simp [rdM, h45]; done) (fun q => absurd h45 q)
              | exact fin _ _ _ (by rw [← hf]; simp [rdM, h45, hkn, h72]; done) (fun q => absurd rfl q)
              | (have hm := (msR_01 Ii n i z).resolve_left h45
                 have hkn : ¬ (spK (Ii 77) n (msE (Ii 77) n i)) < n := seeR_m1.mp h53
                 exact fin _ _ _ (by rw [← hf]; simp [rdM, h45, hkn, hm]; done) (fun _ => ⟨z + 1, hS.1.2.2.2.2.1, hS.1.2.2.2.1⟩))
        · have hkn : (spK (Ii 77) n (msE (Ii 77) n i)) < n := Classical.not_not.mp (fun q => h53 (seeR_m1.mpr q))
          refine v_iconst 1 C dX11_spans_56 (by decide) ?_
          refine v_goto 61 C dX11_spans_57 (by decide) ?_
          refine v_istore_n C dX11_spans_61 (Nat.le_of_ble_eq_true rfl) rfl ?_
          refine v_iload_n C dX11_spans_62 rfl ?_
          refine v_if_eq 85 C dX11_spans_63 (by decide) (fun h63 => absurd h63 (by decide)) (fun _ => ?_)
          refine v_aload_n C dX11_spans_66 rfl ?_
          refine v_callVi C (c_X11_see (I := (iu (msI Ii n i z) 47 40 (nI (spK (Ii 77) n (msE (Ii 77) n i))))) (n := n) (i := (spK (Ii 77) n (msE (Ii 77) n i))) hs hS.1.1 hl iu_same bS.2) mt_X11_see lk_RX11_176 rfl rfl (hs.1 47 _ rfl) rfl rfl rfl rfl rfl dX11_spans_67 ?_
          refine v_eqI (show _ = (iu (msI Ii n i z) 47 40 (nI (spK (Ii 77) n (msE (Ii 77) n i)))) by unfold seeJ; rw [iu_ne 77 (by decide), hS.2, iu_iu]; exact congrArg (fun x => iu (msI Ii n i z) 47 40 (nI x)) spK_spK) ?_
          refine v_eqi (show _ = seeR (Ii 77) n (spK (Ii 77) n (msE (Ii 77) n i)) by unfold seeJ; rw [iu_ne 77 (by decide), hS.2]; exact congrArg (seeR (Ii 77) n) spK_spK) ?_
          refine v_bipush 59 C dX11_spans_70 (by decide) ?_
          refine v_icmp_eq 85 C dX11_spans_72 (by decide) (fun h72 => ?_) (fun h72 => ?_)
          · refine v_iload_n C dX11_spans_85 rfl ?_
            refine v_if_eq 31 C dX11_spans_86 (by decide) (fun h86 => absurd h86 (by decide)) (fun _ => ?_)
            refine v_aload_n C dX11_spans_89 rfl ?_
            refine v_dupr C dX11_spans_90 ?_
            refine v_getI C fl_RX11_173 rfl (hs.1 47 _ rfl) dX11_spans_91 ?_
            refine v_eqi iu_same ?_
            refine v_iconst 1 C dX11_spans_94 (by decide) ?_
            refine v_iadd C dX11_spans_95 ?_
            refine v_eqi (nI_1 _) ?_
            refine v_putI C fl_RX11_173 rfl (hs.1 47 _ rfl) dX11_spans_96 ?_
            refine v_eqI iu_iu ?_
            refine v_goto 31 C dX11_spans_99 (by decide) ?_
            exact ih f _ ((spK (Ii 77) n (msE (Ii 77) n i)) + 1) (z + 1) _ (lt_fuel hfuel) (by omega) h45 (hS.1.at (by omega)) (by rw [← hf]; simp [rdM, h45, hkn, h72])
          · refine v_aload_n C dX11_spans_75 rfl ?_
            refine v_iconst 0 C dX11_spans_76 (by decide) ?_
            refine v_aload_n C dX11_spans_77 rfl ?_
            refine v_getI C fl_RX11_173 rfl (hs.1 47 _ rfl) dX11_spans_78 ?_
            refine v_eqi iu_same ?_
            refine v_callVi C (c_X11_fails hs) mt_X11_fails lk_RX11_184 rfl rfl (hs.1 47 _ rfl) rfl rfl rfl rfl rfl dX11_spans_81 ?_
            refine v_istore_n C dX11_spans_84 (Nat.le_of_ble_eq_true rfl) rfl ?_
            refine v_iload_n C dX11_spans_85 rfl ?_
            refine v_if_eq 31 C dX11_spans_86 (by decide) (fun h86 => absurd h86 (by decide)) (fun _ => ?_)
            refine v_aload_n C dX11_spans_89 rfl ?_
            refine v_dupr C dX11_spans_90 ?_
            refine v_getI C fl_RX11_173 rfl (hs.1 47 _ rfl) dX11_spans_91 ?_
            refine v_iconst 1 C dX11_spans_94 (by decide) ?_
            refine v_iadd C dX11_spans_95 ?_
            refine v_putI C fl_RX11_173 rfl (hs.1 47 _ rfl) dX11_spans_96 ?_
            refine v_goto 31 C dX11_spans_99 (by decide) ?_
            refine v_iload_n C dX11_spans_31 rfl ?_
            refine v_if_eq 102 C dX11_spans_32 (by decide) (fun _ => ?_) (fun h32 => absurd h32 (by decide))
            first
              | exact fin _ _ _ (by rw [← hf]; simp [rdM, h45]; done) (fun q => absurd h45 q)
              | exact fin _ _ _ (by rw [← hf]; simp [rdM, h45, hkn, h72]; done) (fun q => absurd rfl q)
              | (have hm := (msR_01 Ii n i z).resolve_left h45
                 have hkn : ¬ (spK (Ii 77) n (msE (Ii 77) n i)) < n := seeR_m1.mp h53
                 exact fin _ _ _ (by rw [← hf]; simp [rdM, h45, hkn, hm]; done) (fun _ => ⟨z + 1, hS.1.2.2.2.2.1, hS.1.2.2.2.1⟩))
  refine v_aload_n C dX11_spans_0 rfl ?_
  refine v_iconst 0 C dX11_spans_1 (by decide) ?_
  refine v_putI C fl_RX11_173 rfl (hs.1 47 _ rfl) dX11_spans_2 ?_
  refine v_aload_n C dX11_spans_5 rfl ?_
  refine v_iconst 0 C dX11_spans_6 (by decide) ?_
  refine v_putI C fl_RX11_170 rfl (hs.1 47 _ rfl) dX11_spans_7 ?_
  refine v_aload_n C dX11_spans_10 rfl ?_
  refine v_iconst 0 C dX11_spans_11 (by decide) ?_
  refine v_putI C fl_RX11_191 rfl (hs.1 47 _ rfl) dX11_spans_12 ?_
  refine v_iconst 1 C dX11_spans_15 (by decide) ?_
  refine v_istore_n C dX11_spans_16 (Nat.le_of_ble_eq_true rfl) rfl ?_
  refine v_aload_n C dX11_spans_17 rfl ?_
  refine v_callVi C (c_X11_see (I := (iu (iu (iu I 47 40 0) 47 41 0) 47 45 0)) (n := n) (i := 0) hs hn hl rfl (Nat.zero_le n)) mt_X11_see lk_RX11_176 rfl rfl (hs.1 47 _ rfl) rfl rfl rfl rfl rfl dX11_spans_18 ?_
  refine v_eqI (show _ = iu (iu (iu (iu I 47 40 0) 47 41 0) 47 45 0) 47 40 (nI (spK (I 77) n 0)) from rfl) ?_
  refine v_eqi (show _ = seeR (I 77) n (spK (I 77) n 0) from rfl) ?_
  have bK := spK_b (T := I 77) (Nat.zero_le n)
  refine v_iconst (-1) C dX11_spans_21 (by decide) ?_
  refine v_icmp_eq 29 C dX11_spans_22 (by decide) (fun h22 => ?_) (fun h22 => ?_)
  · refine v_iconst 0 C dX11_spans_29 (by decide) ?_
    refine v_istore_n C dX11_spans_30 (Nat.le_of_ble_eq_true rfl) rfl ?_
    refine v_iload_n C dX11_spans_31 rfl ?_
    refine v_if_eq 102 C dX11_spans_32 (by decide) (fun h32 => absurd h32 (by decide)) (fun _ => ?_)
    refine v_iload_n C dX11_spans_35 rfl ?_
    refine v_if_eq 102 C dX11_spans_36 (by decide) (fun _ => ?_) (fun h36 => absurd h36 (by decide))
    have hkn : ¬ (spK (I 77) n 0) < n := seeR_m1.mp h22
    exact fin _ _ _ (if_neg hkn).symm (fun _ => ⟨0, by decide, rfl⟩)
  · refine v_iconst 1 C dX11_spans_25 (by decide) ?_
    refine v_goto 30 C dX11_spans_26 (by decide) ?_
    refine v_istore_n C dX11_spans_30 (Nat.le_of_ble_eq_true rfl) rfl ?_
    have hkn : (spK (I 77) n 0) < n := Classical.not_not.mp (fun q => h22 (seeR_m1.mpr q))
    exact loop 10 9 _ (spK (I 77) n 0) 0 1 (by decide) rfl (by decide) ⟨hn, iu_same, bK.2, rfl, by decide, fun k hk => absurd hk (Nat.not_lt_zero k)⟩ (if_pos hkn).symm
