set_option maxHeartbeats 4000000 in
set_option maxRecDepth 100000 in
theorem c_X11_span {lnc : Launch} {E : En} {sh : List Sh} {I : IM} {J : JM} {R : RM} {n i z : Nat} (hs : St sh R) (hn : I 47 39 = nI n) (hl : n ≤ 200) (hi : I 47 40 = nI i) (hin : i ≤ n) (hz : I 47 45 = nI z) (hzl : z ≤ 8) (hw : WOKm I n z) : Ct lnc E yX11_span cX11_span 4 (some .boolean) 2 47 [.ref 47] sh I J R 0 0 (m_ret (some (.int (msR I n i z))) sh (msI I n i z) J R) := by
  refine Ct.of (lv := [some (.ref 47), none, none, none]) (by decide) (Nat.le_of_ble_eq_true rfl) rfl (fun X hX C => ?_)
  have loop : ∀ (fuel : Nat) (f m a : Nat) (cc : Int32), f < fuel → a + m + f = n → V E X (m_Z E X (m_ret (some (.int (msR I n i z))) sh (msI I n i z) J R) 0 0) 0 0 sh (iu I 47 40 (nI a)) J R 54 [some (.ref 47), some (.int cc), some (.int (nI a)), some (.int (nI (scan plet (I 77) n f (a + m) - a)))] [] → V E X (m_Z E X (m_ret (some (.int (msR I n i z))) sh (msI I n i z) J R) 0 0) 0 0 sh (iu I 47 40 (nI a)) J R 12 [some (.ref 47), some (.int cc), some (.int (nI a)), some (.int (nI m))] [] := by
    intro fuel
    induction fuel with
    | zero => intro f m a cc hfuel; exact absurd hfuel (Nat.not_lt_zero _)
    | succ fuel ih =>
      intro f m a cc hfuel hk hx
      refine v_iload_n C dX11_span_12 rfl ?_
      refine v_iload_n C dX11_span_13 rfl ?_
      refine v_iadd C dX11_span_14 ?_
      refine v_eqi (nI_add a m) ?_
      refine v_aload_n C dX11_span_15 rfl ?_
      refine v_getI C fl_RX11_163 rfl (hs.1 47 _ rfl) dX11_span_16 ?_
      refine v_eqi (show _ = nI n from hn) ?_
      refine v_icmp_ge 54 C dX11_span_19 (by decide) (fun h19 => ?_) (fun h19 => ?_)
      · first
          | (have hkn := nI_le_of h19 (by omega) (by omega); obtain rfl : f = 0 := (by omega); have e : a + m - a = m := (by omega); simpa [scan, e] using hx; done)
          | (have hA : I 77 (a + m) < 97 := h32; have e : a + m - a = m := (by omega); simpa [scan, plet, wI, hA, e] using hx; done)
          | (have hA : ¬ I 77 (a + m) < 97 := h32; have hB : 122 < I 77 (a + m) := h45; have e : a + m - a = m := (by omega); simpa [scan, plet, wI, hA, hB, e] using hx; done)
      · have hkn := nI_lt_of h19 (by omega)
        obtain ⟨f, rfl⟩ : ∃ f2, f = f2 + 1 := ⟨f - 1, by omega⟩
        refine v_aload_n C dX11_span_22 rfl ?_
        refine v_getR 77 C fl_RX11_98 rfl (hs.1 47 _ rfl) (hs.2 47 38 77 rfl) dX11_span_23 ?_
        refine v_iload_n C dX11_span_26 rfl ?_
        refine v_iload_n C dX11_span_27 rfl ?_
        refine v_iadd C dX11_span_28 ?_
        refine v_baload (a + m) C (hs.1 77 _ rfl) (at_e (nI_add a m) (by omega) (by decide)) dX11_span_29 ?_
        refine v_bipush 97 C dX11_span_30 (by decide) ?_
        refine v_icmp_lt 54 C dX11_span_32 (by decide) (fun h32 => ?_) (fun h32 => ?_)
        · first
            | (have hkn := nI_le_of h19 (by omega) (by omega); obtain rfl : f = 0 := (by omega); have e : a + m - a = m := (by omega); simpa [scan, e] using hx; done)
            | (have hA : I 77 (a + m) < 97 := h32; have e : a + m - a = m := (by omega); simpa [scan, plet, wI, hA, e] using hx; done)
            | (have hA : ¬ I 77 (a + m) < 97 := h32; have hB : 122 < I 77 (a + m) := h45; have e : a + m - a = m := (by omega); simpa [scan, plet, wI, hA, hB, e] using hx; done)
        · have hA : ¬ I 77 (a + m) < 97 := h32
          refine v_aload_n C dX11_span_35 rfl ?_
          refine v_getR 77 C fl_RX11_98 rfl (hs.1 47 _ rfl) (hs.2 47 38 77 rfl) dX11_span_36 ?_
          refine v_iload_n C dX11_span_39 rfl ?_
          refine v_iload_n C dX11_span_40 rfl ?_
          refine v_iadd C dX11_span_41 ?_
          refine v_baload (a + m) C (hs.1 77 _ rfl) (at_e (nI_add a m) (by omega) (by decide)) dX11_span_42 ?_
          refine v_bipush 122 C dX11_span_43 (by decide) ?_
          refine v_icmp_gt 54 C dX11_span_45 (by decide) (fun h45 => ?_) (fun h45 => ?_)
          · first
              | (have hkn := nI_le_of h19 (by omega) (by omega); obtain rfl : f = 0 := (by omega); have e : a + m - a = m := (by omega); simpa [scan, e] using hx; done)
              | (have hA : I 77 (a + m) < 97 := h32; have e : a + m - a = m := (by omega); simpa [scan, plet, wI, hA, e] using hx; done)
              | (have hA : ¬ I 77 (a + m) < 97 := h32; have hB : 122 < I 77 (a + m) := h45; have e : a + m - a = m := (by omega); simpa [scan, plet, wI, hA, hB, e] using hx; done)
          · have hB : ¬ 122 < I 77 (a + m) := h45
            refine v_iinc (nI (m + 1)) C dX11_span_48 rfl (nI_1 m) (Nat.le_of_ble_eq_true rfl) rfl ?_
            refine v_goto 12 C dX11_span_51 (by decide) ?_
            exact ih f (m + 1) a cc (lt_fuel hfuel) (by omega) (by simpa [scan, plet, wI, hkn, hA, hB, Nat.add_assoc] using hx)
  refine v_aload_n C dX11_span_0 rfl ?_
  refine v_callVi C (c_X11_see hs hn hl hi hin) mt_X11_see lk_RX11_176 rfl rfl (hs.1 47 _ rfl) rfl rfl rfl rfl rfl dX11_span_1 ?_
  have bA := seeJ_b (I := I) hin
  have bB := spJ_b (T := I 77) bA.2
  refine v_istore_n C dX11_span_4 (Nat.le_of_ble_eq_true rfl) rfl ?_
  refine v_aload_n C dX11_span_5 rfl ?_
  refine v_getI C fl_RX11_173 rfl (hs.1 47 _ rfl) dX11_span_6 ?_
  refine v_eqi iu_same ?_
  refine v_istore_n C dX11_span_9 (Nat.le_of_ble_eq_true rfl) rfl ?_
  refine v_iconst 0 C dX11_span_10 (by decide) ?_
  refine v_istore_n C dX11_span_11 (Nat.le_of_ble_eq_true rfl) rfl ?_
  refine loop (n - (seeJ I n i) + 1) (n - (seeJ I n i)) 0 (seeJ I n i) _ (Nat.lt_succ_self _) (by omega) ?_
  refine v_lv (show _ = [some (.ref 47), some (.int (seeR (I 77) n (seeJ I n i))), some (.int (nI (seeJ I n i))), some (.int (nI ((spJ (I 77) n (seeJ I n i)) - (seeJ I n i))))] from rfl) ?_
  refine v_iload_n C dX11_span_54 rfl ?_
  refine v_if_ne 65 C dX11_span_55 (by decide) (fun h55 => ?_) (fun h55 => ?_)
  · refine v_iload_n C dX11_span_65 rfl ?_
    refine v_bipush 10 C dX11_span_66 (by decide) ?_
    refine v_icmp_le 78 C dX11_span_68 (by decide) (fun h68 => ?_) (fun h68 => ?_)
    · refine v_aload_n C dX11_span_78 rfl ?_
      refine v_getI C fl_RX11_191 rfl (hs.1 47 _ rfl) dX11_span_79 ?_
      refine v_eqi (show _ = nI z from hz) ?_
      refine v_bipush 8 C dX11_span_82 (by decide) ?_
      refine v_icmp_eq 96 C dX11_span_84 (by decide) (fun h84 => ?_) (fun h84 => ?_)
      · refine v_aload_n C dX11_span_96 rfl ?_
        refine v_iconst 2 C dX11_span_97 (by decide) ?_
        refine v_iload_n C dX11_span_98 rfl ?_
        refine v_callVi C (c_X11_fails hs) mt_X11_fails lk_RX11_184 rfl rfl (hs.1 47 _ rfl) rfl rfl rfl rfl rfl dX11_span_99 ?_
        exact v_zret C (Or.inl rfl) dX11_span_102 (by first | (refine ⟨?_, rfl, ?_, rfl, rfl⟩ <;> simp [msR, msI, h55, h68, h84, h93]; done) | (refine ⟨?_, rfl, ?_, rfl, rfl⟩ <;> simp [msR, msI, h55, h68, h84]; done))
      · refine v_aload_n C dX11_span_87 rfl ?_
        refine v_iload_n C dX11_span_88 rfl ?_
        refine v_iload_n C dX11_span_89 rfl ?_
        refine v_callVi C (c_X11_isTwice (z := z) hs hz hzl (by omega) (hw.tw hl (by omega))) mt_X11_isTwice lk_RX11_194 rfl rfl (hs.1 47 _ rfl) rfl rfl rfl rfl rfl dX11_span_90 ?_
        refine v_eqi (show _ = twF (I 77) (I 82) (I 83) (seeJ I n i) ((spJ (I 77) n (seeJ I n i)) - (seeJ I n i)) z 0 from rfl) ?_
        refine v_if_eq 103 C dX11_span_93 (by decide) (fun h93 => ?_) (fun h93 => ?_)
        · refine v_aload_n C dX11_span_103 rfl ?_
          refine v_iload_n C dX11_span_104 rfl ?_
          refine v_iload_n C dX11_span_105 rfl ?_
          refine v_iadd C dX11_span_106 ?_
          refine v_eqi (show _ = nI (spJ (I 77) n (seeJ I n i)) by rw [nI_add]; congr 1; omega) ?_
          refine v_putI C fl_RX11_173 rfl (hs.1 47 _ rfl) dX11_span_107 ?_
          refine v_eqI iu_iu ?_
          refine v_aload_n C dX11_span_110 rfl ?_
          refine v_getR 82 C fl_RX11_114 rfl (hs.1 47 _ rfl) (hs.2 47 48 82 rfl) dX11_span_111 ?_
          refine v_aload_n C dX11_span_114 rfl ?_
          refine v_getI C fl_RX11_191 rfl (hs.1 47 _ rfl) dX11_span_115 ?_
          refine v_iload_n C dX11_span_118 rfl ?_
          refine v_iastore z C (hs.1 82 _ rfl) (at_e (show I 47 45 = nI z from hz) (nI_8 h84 hzl) (by decide)) dX11_span_119 ?_
          refine v_aload_n C dX11_span_120 rfl ?_
          refine v_getR 83 C fl_RX11_117 rfl (hs.1 47 _ rfl) (hs.2 47 49 83 rfl) dX11_span_121 ?_
          refine v_aload_n C dX11_span_124 rfl ?_
          refine v_getI C fl_RX11_191 rfl (hs.1 47 _ rfl) dX11_span_125 ?_
          refine v_iload_n C dX11_span_128 rfl ?_
          refine v_iastore z C (hs.1 83 _ rfl) (at_e (show I 47 45 = nI z from hz) (nI_8 h84 hzl) (by decide)) dX11_span_129 ?_
          refine v_aload_n C dX11_span_130 rfl ?_
          refine v_iconst 0 C dX11_span_131 (by decide) ?_
          refine v_bipush 100 C dX11_span_132 (by decide) ?_
          refine v_eqI (show _ = ms2 I n i z from rfl) ?_
          refine v_callVi C (c_X11_number (n := n) (i := (spJ (I 77) n (seeJ I n i))) hs hn hl rfl bB.2) mt_X11_number lk_RX11_197 rfl rfl (hs.1 47 _ rfl) rfl rfl rfl rfl rfl dX11_span_134 ?_
          refine v_if_ne 142 C dX11_span_137 (by decide) (fun h137 => ?_) (fun h137 => ?_)
          · refine v_eqI (show _ = iu (iu (ms2 I n i z) 47 40 (nI (k1M (I 77) n (spJ (I 77) n (seeJ I n i))))) 47 50 (v1M (I 77) n (spJ (I 77) n (seeJ I n i))) from nb_ok h137) ?_
            have bK := k1M_b (T := I 77) bB.2
            refine v_aload_n C dX11_span_142 rfl ?_
            refine v_getR 80 C fl_RX11_108 rfl (hs.1 47 _ rfl) (hs.2 47 46 80 rfl) dX11_span_143 ?_
            refine v_aload_n C dX11_span_146 rfl ?_
            refine v_getI C fl_RX11_191 rfl (hs.1 47 _ rfl) dX11_span_147 ?_
            refine v_aload_n C dX11_span_150 rfl ?_
            refine v_getI C fl_RX11_188 rfl (hs.1 47 _ rfl) dX11_span_151 ?_
            refine v_iastore z C (hs.1 80 _ rfl) (at_e (show I 47 45 = nI z from hz) (nI_8 h84 hzl) (by decide)) dX11_span_154 ?_
            refine v_eqI (show _ = ms4 I n i z from rfl) ?_
            refine v_aload_n C dX11_span_155 rfl ?_
            refine v_aload_n C dX11_span_156 rfl ?_
            refine v_getI C fl_RX11_188 rfl (hs.1 47 _ rfl) dX11_span_157 ?_
            refine v_bipush 100 C dX11_span_160 (by decide) ?_
            refine v_callVi C (c_X11_number (n := n) (i := (k1M (I 77) n (spJ (I 77) n (seeJ I n i)))) (lo := (v1M (I 77) n (spJ (I 77) n (seeJ I n i)))) hs hn hl rfl bK.2) mt_X11_number lk_RX11_197 rfl rfl (hs.1 47 _ rfl) rfl rfl rfl rfl rfl dX11_span_162 ?_
            refine v_if_ne 170 C dX11_span_165 (by decide) (fun h165 => ?_) (fun h165 => ?_)
            · refine v_eqI (show _ = iu (iu (ms4 I n i z) 47 40 (nI (k1M (I 77) n (k1M (I 77) n (spJ (I 77) n (seeJ I n i)))))) 47 50 (v1M (I 77) n (k1M (I 77) n (spJ (I 77) n (seeJ I n i)))) from nb_ok h165) ?_
              refine v_aload_n C dX11_span_170 rfl ?_
              refine v_getR 81 C fl_RX11_111 rfl (hs.1 47 _ rfl) (hs.2 47 47 81 rfl) dX11_span_171 ?_
              refine v_aload_n C dX11_span_174 rfl ?_
              refine v_getI C fl_RX11_191 rfl (hs.1 47 _ rfl) dX11_span_175 ?_
              refine v_aload_n C dX11_span_178 rfl ?_
              refine v_getI C fl_RX11_188 rfl (hs.1 47 _ rfl) dX11_span_179 ?_
              refine v_iastore z C (hs.1 81 _ rfl) (at_e (show I 47 45 = nI z from hz) (nI_8 h84 hzl) (by decide)) dX11_span_182 ?_
              refine v_aload_n C dX11_span_183 rfl ?_
              refine v_dupr C dX11_span_184 ?_
              refine v_getI C fl_RX11_191 rfl (hs.1 47 _ rfl) dX11_span_185 ?_
              refine v_iconst 1 C dX11_span_188 (by decide) ?_
              refine v_iadd C dX11_span_189 ?_
              refine v_putI C fl_RX11_191 rfl (hs.1 47 _ rfl) dX11_span_190 ?_
              refine v_iconst 1 C dX11_span_193 (by decide) ?_
              refine v_eqI (show _ = ms6 I n i z from by unfold ms6; rw [← hz]; rfl) ?_
              exact v_zret C (Or.inr rfl) dX11_span_194 (by refine ⟨?_, rfl, ?_, rfl, rfl⟩ <;> simp [msR, msI, h55, h68, h84, h93, h137, h165])
            · refine v_iconst 0 C dX11_span_168 (by decide) ?_
              exact v_zret C (Or.inl rfl) dX11_span_169 (by refine ⟨?_, rfl, ?_, rfl, rfl⟩ <;> simp [msR, msI, h55, h68, h84, h93, h137, h165])
          · refine v_iconst 0 C dX11_span_140 (by decide) ?_
            exact v_zret C (Or.inl rfl) dX11_span_141 (by refine ⟨?_, rfl, ?_, rfl, rfl⟩ <;> simp [msR, msI, h55, h68, h84, h93, h137])
        · refine v_aload_n C dX11_span_96 rfl ?_
          refine v_iconst 2 C dX11_span_97 (by decide) ?_
          refine v_iload_n C dX11_span_98 rfl ?_
          refine v_callVi C (c_X11_fails hs) mt_X11_fails lk_RX11_184 rfl rfl (hs.1 47 _ rfl) rfl rfl rfl rfl rfl dX11_span_99 ?_
          exact v_zret C (Or.inl rfl) dX11_span_102 (by first | (refine ⟨?_, rfl, ?_, rfl, rfl⟩ <;> simp [msR, msI, h55, h68, h84, h93]; done) | (refine ⟨?_, rfl, ?_, rfl, rfl⟩ <;> simp [msR, msI, h55, h68, h84]; done))
    · refine v_aload_n C dX11_span_71 rfl ?_
      refine v_iconst 1 C dX11_span_72 (by decide) ?_
      refine v_iload_n C dX11_span_73 rfl ?_
      refine v_callVi C (c_X11_fails hs) mt_X11_fails lk_RX11_184 rfl rfl (hs.1 47 _ rfl) rfl rfl rfl rfl rfl dX11_span_74 ?_
      exact v_zret C (Or.inl rfl) dX11_span_77 (by refine ⟨?_, rfl, ?_, rfl, rfl⟩ <;> simp [msR, msI, h55, h68])
  · refine v_aload_n C dX11_span_58 rfl ?_
    refine v_iconst 0 C dX11_span_59 (by decide) ?_
    refine v_iload_n C dX11_span_60 rfl ?_
    refine v_callVi C (c_X11_fails hs) mt_X11_fails lk_RX11_184 rfl rfl (hs.1 47 _ rfl) rfl rfl rfl rfl rfl dX11_span_61 ?_
    exact v_zret C (Or.inl rfl) dX11_span_64 (by refine ⟨?_, rfl, ?_, rfl, rfl⟩ <;> simp [msR, msI, h55])
