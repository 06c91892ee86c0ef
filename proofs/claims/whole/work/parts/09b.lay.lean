set_option maxHeartbeats 4000000 in
set_option maxRecDepth 100000 in
theorem c_X10_lay {lnc : Launch} {E : En} {sh : List Sh} {I : IM} {J : JM} {R : RM} {n : Nat} {p s h b : Int32} (hs : St sh R) (hn : I 14 2 = nI n) (hl : n ≤ 8) : Ct lnc E yX10_lay cX10_lay 5 (some .int) 2 44 [.ref 0, .int p, .int s, .int h, .int b] sh I J R 0 0 (m_ret (some (.int (if layOk I p s h b then I 0 13 + 1 - 1 else -1))) sh (if layOk I p s h b then layI I n p s h b else I) J R) := by
  refine Ct.of (lv := [some (.ref 0), some (.int p), some (.int s), some (.int h), some (.int b)]) (by decide) (Nat.le_of_ble_eq_true rfl) rfl (fun X hX C => ?_)
  refine v_iload_n C dX10_lay_0 rfl ?_
  refine v_iconst 0 C dX10_lay_1 (by decide) ?_
  refine v_iconst 5 C dX10_lay_2 (by decide) ?_
  refine v_callSi C c_X10_within mt_X10_within lk_RX10_88 rfl rfl rfl rfl rfl dX10_lay_3 ?_
  refine v_if_eq 38 C dX10_lay_6 (by decide) (fun h6 => ?_) (fun h6 => ?_)
  · refine v_iconst (-1) C dX10_lay_38 (by decide) ?_
    exact v_iret C dX10_lay_39 ⟨by simp [layOk, *], rfl, by simp [layOk, *], rfl, rfl⟩
  · refine v_aload_n C dX10_lay_9 rfl ?_
    refine v_callVi C (c_X10_atEnd (hs.1 0 _ rfl)) mt_X10_atEnd lk_RX10_96 rfl rfl (hs.1 0 _ rfl) rfl rfl rfl rfl rfl dX10_lay_10 ?_
    refine v_if_ne 38 C dX10_lay_13 (by decide) (fun h13 => ?_) (fun h13 => ?_)
    · refine v_iconst (-1) C dX10_lay_38 (by decide) ?_
      exact v_iret C dX10_lay_39 ⟨by simp [layOk, *], rfl, by simp [layOk, *], rfl, rfl⟩
    · refine v_aload_n C dX10_lay_16 rfl ?_
      refine v_getI C fl_RX10_147 rfl (hs.1 0 _ rfl) dX10_lay_17 ?_
      refine v_sipush 200 C dX10_lay_20 (by decide) ?_
      refine v_icmp_ge 38 C dX10_lay_23 (by decide) (fun h23 => ?_) (fun h23 => ?_)
      · refine v_iconst (-1) C dX10_lay_38 (by decide) ?_
        exact v_iret C dX10_lay_39 ⟨by simp [layOk, *], rfl, by simp [layOk, *], rfl, rfl⟩
      · refine v_aload_n C dX10_lay_26 rfl ?_
        refine v_getR 17 C fl_RX10_39 rfl (hs.1 0 _ rfl) (hs.2 0 4 17 rfl) dX10_lay_27 ?_
        refine v_iload_n C dX10_lay_30 rfl ?_
        refine v_aaload (ix p) C (hs.1 17 _ rfl) (cn := RX7) ⟨rfl, by decide, by decide⟩ (wI_at h6 (by decide)) (hs.pot (wI_at h6 (by decide) : At p 6 _).lt).2 dX10_lay_31 ?_
        refine v_callVi C (c_X7_isEmpty (hs.pot (wI_at h6 (by decide) : At p 6 _).lt).1) mt_X7_isEmpty lk_RX10_150 rfl rfl (hs.pot (wI_at h6 (by decide) : At p 6 _).lt).1 rfl rfl rfl rfl rfl dX10_lay_32 ?_
        refine v_if_ne 40 C dX10_lay_35 (by decide) (fun h35 => ?_) (fun h35 => ?_)
        · refine v_iload_n C dX10_lay_40 rfl ?_
          refine v_iconst 1 C dX10_lay_41 (by decide) ?_
          refine v_sipush 200 C dX10_lay_42 (by decide) ?_
          refine v_callSi C c_X10_within mt_X10_within lk_RX10_88 rfl rfl rfl rfl rfl dX10_lay_45 ?_
          refine v_if_eq 83 C dX10_lay_48 (by decide) (fun h48 => ?_) (fun h48 => ?_)
          · refine v_iconst (-1) C dX10_lay_83 (by decide) ?_
            exact v_iret C dX10_lay_84 ⟨by simp [layOk, *], rfl, by simp [layOk, *], rfl, rfl⟩
          · refine v_iload_n C dX10_lay_51 rfl ?_
            refine v_iconst 0 C dX10_lay_52 (by decide) ?_
            refine v_sipush 200 C dX10_lay_53 (by decide) ?_
            refine v_callSi C c_X10_within mt_X10_within lk_RX10_88 rfl rfl rfl rfl rfl dX10_lay_56 ?_
            refine v_if_eq 83 C dX10_lay_59 (by decide) (fun h59 => ?_) (fun h59 => ?_)
            · refine v_iconst (-1) C dX10_lay_83 (by decide) ?_
              exact v_iret C dX10_lay_84 ⟨by simp [layOk, *], rfl, by simp [layOk, *], rfl, rfl⟩
            · refine v_iload C dX10_lay_62 rfl ?_
              refine v_iconst 0 C dX10_lay_64 (by decide) ?_
              refine v_sipush 200 C dX10_lay_65 (by decide) ?_
              refine v_callSi C c_X10_within mt_X10_within lk_RX10_88 rfl rfl rfl rfl rfl dX10_lay_68 ?_
              refine v_if_eq 83 C dX10_lay_71 (by decide) (fun h71 => ?_) (fun h71 => ?_)
              · refine v_iconst (-1) C dX10_lay_83 (by decide) ?_
                exact v_iret C dX10_lay_84 ⟨by simp [layOk, *], rfl, by simp [layOk, *], rfl, rfl⟩
              · refine v_iload C dX10_lay_74 rfl ?_
                refine v_aload_n C dX10_lay_76 rfl ?_
                refine v_getI C fl_RX10_153 rfl (hs.1 0 _ rfl) dX10_lay_77 ?_
                refine v_icmp_le 85 C dX10_lay_80 (by decide) (fun h80 => ?_) (fun h80 => ?_)
                · refine v_aload_n C dX10_lay_85 rfl ?_
                  refine v_dupr C dX10_lay_86 ?_
                  refine v_getI C fl_RX10_153 rfl (hs.1 0 _ rfl) dX10_lay_87 ?_
                  refine v_iload C dX10_lay_90 rfl ?_
                  refine v_isub C dX10_lay_92 ?_
                  refine v_putI C fl_RX10_153 rfl (hs.1 0 _ rfl) dX10_lay_93 ?_
                  refine v_aload_n C dX10_lay_96 rfl ?_
                  refine v_getR 17 C fl_RX10_39 rfl (hs.1 0 _ rfl) (hs.2 0 4 17 rfl) dX10_lay_97 ?_
                  refine v_iload_n C dX10_lay_100 rfl ?_
                  refine v_aaload (ix p) C (hs.1 17 _ rfl) (cn := RX7) ⟨rfl, by decide, by decide⟩ (wI_at h6 (by decide)) (hs.pot (wI_at h6 (by decide) : At p 6 _).lt).2 dX10_lay_101 ?_
                  refine v_aload_n C dX10_lay_102 rfl ?_
                  refine v_getI C fl_RX10_147 rfl (hs.1 0 _ rfl) dX10_lay_103 ?_
                  refine v_iload_n C dX10_lay_106 rfl ?_
                  refine v_iload_n C dX10_lay_107 rfl ?_
                  refine v_iload C dX10_lay_108 rfl ?_
                  refine v_callVv C (c_X7_fill (hs.pot (wI_at h6 (by decide) : At p 6 _).lt).1) mt_X7_fill lk_RX10_156 rfl rfl (hs.pot (wI_at h6 (by decide) : At p 6 _).lt).1 rfl rfl rfl rfl rfl dX10_lay_110 ?_
                  refine v_aload_n C dX10_lay_113 rfl ?_
                  refine v_getR 17 C fl_RX10_39 rfl (hs.1 0 _ rfl) (hs.2 0 4 17 rfl) dX10_lay_114 ?_
                  refine v_iload_n C dX10_lay_117 rfl ?_
                  refine v_aaload (ix p) C (hs.1 17 _ rfl) (cn := RX7) ⟨rfl, by decide, by decide⟩ (wI_at h6 (by decide)) (hs.pot (wI_at h6 (by decide) : At p 6 _).lt).2 dX10_lay_118 ?_
                  refine v_aload_n C dX10_lay_119 rfl ?_
                  refine v_getR 14 C fl_RX10_33 rfl (hs.1 0 _ rfl) (hs.2 0 3 14 rfl) dX10_lay_120 ?_
                  refine v_iload_n C dX10_lay_123 rfl ?_
                  refine v_iload_n C dX10_lay_124 rfl ?_
                  refine v_callSi C c_X10_hundredths mt_X10_hundredths lk_RX10_159 rfl rfl rfl rfl rfl dX10_lay_125 ?_
                  refine v_callVi C (c_X1_firstWith (n := n) hs (by rw [fillI_o (by omega), iu_ne 14 (by decide)]; exact hn) hl) mt_X1_firstWith lk_RX10_162 rfl rfl (hs.1 14 _ rfl) rfl rfl rfl rfl rfl dX10_lay_128 ?_
                  refine v_eqi (show _ = fwF (I 15) (I 16) (hundF s h) n 0 by rw [fillI_o (by omega), fillI_o (by omega), iu_ne 15 (by decide), iu_ne 16 (by decide)]) ?_
                  refine v_putI C fl_RX10_165 rfl (hs.pot (wI_at h6 (by decide) : At p 6 _).lt).1 dX10_lay_131 ?_
                  refine v_aload_n C dX10_lay_134 rfl ?_
                  refine v_dupr C dX10_lay_135 ?_
                  refine v_getI C fl_RX10_147 rfl (hs.1 0 _ rfl) dX10_lay_136 ?_
                  refine v_iconst 1 C dX10_lay_139 (by decide) ?_
                  refine v_iadd C dX10_lay_140 ?_
                  refine v_putI C fl_RX10_147 rfl (hs.1 0 _ rfl) dX10_lay_141 ?_
                  refine v_aload_n C dX10_lay_144 rfl ?_
                  refine v_getI C fl_RX10_147 rfl (hs.1 0 _ rfl) dX10_lay_145 ?_
                  refine v_iconst 1 C dX10_lay_148 (by decide) ?_
                  refine v_isub C dX10_lay_149 ?_
                  have hok : layOk I p s h b = true := by simp [layOk, *]
                  exact v_iret C dX10_lay_150 (by rw [if_pos hok, if_pos hok]; exact ⟨by simp [fillI, iu_ap], rfl, by simp [layI, fillI, iu_ap], rfl, rfl⟩)
                · refine v_iconst (-1) C dX10_lay_83 (by decide) ?_
                  exact v_iret C dX10_lay_84 ⟨by simp [layOk, *], rfl, by simp [layOk, *], rfl, rfl⟩
        · refine v_iconst (-1) C dX10_lay_38 (by decide) ?_
          exact v_iret C dX10_lay_39 ⟨by simp [layOk, *], rfl, by simp [layOk, *], rfl, rfl⟩

set_option maxHeartbeats 4000000 in
set_option maxRecDepth 100000 in
theorem c_X11_lay {lnc : Launch} {E : En} {sh : List Sh} {I : IM} {J : JM} {R : RM} {n : Nat} {p s h b : Int32} (hs : St sh R) (hn : I 47 42 = nI n) (hl : n ≤ 8) : Ct lnc E yX11_lay cX11_lay 7 (some .int) 2 42 [.ref 47, .int p, .int s, .int h, .int b] sh I J R 0 0 (m_ret (some (.int (if layOkm I p s h b then I 47 12 else -1))) sh (if layOkm I p s h b then layIm I n p s h b else I) J R) := by
  refine Ct.of (lv := [some (.ref 47), some (.int p), some (.int s), some (.int h), some (.int b), none, none]) (by decide) (Nat.le_of_ble_eq_true rfl) rfl (fun X hX C => ?_)
  have big : ∀ (Ib : IM) (u : Int32) (j : Nat), At p 6 j → ∀ (m : Nat) (c : Int32), m ≤ n → V E X (m_Z E X (m_ret (some (.int (if layOkm I p s h b then I 47 12 else -1))) sh (if layOkm I p s h b then layIm I n p s h b else I) J R) 0 0) 0 0 sh (iu Ib 57 j (mwF (Ib 78) (Ib 79) u m c)) J R 227 [some (.ref 47), some (.int p), some (.int s), some (.int h), some (.int b), some (.int u), none] [] → V E X (m_Z E X (m_ret (some (.int (if layOkm I p s h b then I 47 12 else -1))) sh (if layOkm I p s h b then layIm I n p s h b else I) J R) 0 0) 0 0 sh (iu Ib 57 j c) J R 186 [some (.ref 47), some (.int p), some (.int s), some (.int h), some (.int b), some (.int u), some (.int (nI m - 1))] [] := by
    intro Ib u j hj
    have loop : ∀ (fuel : Nat) (m : Nat) (c : Int32), m < fuel → m ≤ n → V E X (m_Z E X (m_ret (some (.int (if layOkm I p s h b then I 47 12 else -1))) sh (if layOkm I p s h b then layIm I n p s h b else I) J R) 0 0) 0 0 sh (iu Ib 57 j (mwF (Ib 78) (Ib 79) u m c)) J R 227 [some (.ref 47), some (.int p), some (.int s), some (.int h), some (.int b), some (.int u), none] [] → V E X (m_Z E X (m_ret (some (.int (if layOkm I p s h b then I 47 12 else -1))) sh (if layOkm I p s h b then layIm I n p s h b else I) J R) 0 0) 0 0 sh (iu Ib 57 j c) J R 186 [some (.ref 47), some (.int p), some (.int s), some (.int h), some (.int b), some (.int u), some (.int (nI m - 1))] [] := by
      intro fuel
      induction fuel with
      | zero => intro m c hfuel; exact absurd hfuel (Nat.not_lt_zero _)
      | succ fuel ih =>
        intro m c hfuel hm hx
        refine v_iload C dX11_lay_186 rfl ?_
        refine v_if_lt 227 C dX11_lay_188 (by decide) (fun h188 => ?_) (fun h188 => ?_)
        · obtain rfl := nI_neg h188 (by omega)
          exact v_drop 6 hx
        · obtain ⟨m, rfl⟩ := nI_nneg h188; refine v_lv (show _ = [some (.ref 47), some (.int p), some (.int s), some (.int h), some (.int b), some (.int u), some (.int (nI (m + 1) - 1))] from rfl) ?_
          refine v_iload C dX11_lay_191 rfl ?_
          refine v_aload_n C dX11_lay_193 rfl ?_
          refine v_getR 78 C fl_RX11_102 rfl (hs.1 47 _ rfl) (hs.2 47 43 78 rfl) dX11_lay_194 ?_
          refine v_iload C dX11_lay_197 rfl ?_
          refine v_iaload m C (hs.1 78 _ rfl) (at_e (nI_m1 m) (by omega) (by decide)) dX11_lay_199 ?_
          refine v_aload_n C dX11_lay_200 rfl ?_
          refine v_getR 79 C fl_RX11_105 rfl (hs.1 47 _ rfl) (hs.2 47 44 79 rfl) dX11_lay_201 ?_
          refine v_iload C dX11_lay_204 rfl ?_
          refine v_iaload m C (hs.1 79 _ rfl) (at_e (nI_m1 m) (by omega) (by decide)) dX11_lay_206 ?_
          refine v_callSi C c_X11_in mt_X11_in lk_RX11_140 rfl rfl rfl rfl rfl dX11_lay_207 ?_
          refine v_if_eq 221 C dX11_lay_210 (by decide) (fun h210 => ?_) (fun h210 => ?_)
          · refine v_iinc (nI m - 1) C dX11_lay_221 rfl (nI_dec m) (Nat.le_of_ble_eq_true rfl) rfl ?_
            refine v_goto 186 C dX11_lay_224 (by decide) ?_
            exact ih m _ (lt_fuel hfuel) (by omega) (by first | (have q : wI u (Ib 78 m) (Ib 79 m) = 0 := h210; simpa [mwF, q] using hx) | (have q : ¬ wI u (Ib 78 m) (Ib 79 m) = 0 := h210; rw [nI_m1]; simpa [mwF, q] using hx))
          · refine v_aload_n C dX11_lay_213 rfl ?_
            refine v_getR 57 C fl_RX11_37 rfl (hs.1 47 _ rfl) (hs.2 47 17 57 rfl) dX11_lay_214 ?_
            refine v_iload_n C dX11_lay_217 rfl ?_
            refine v_iload C dX11_lay_218 rfl ?_
            refine v_iastore j C (hs.1 57 _ rfl) hj dX11_lay_220 (v_eqI iu_iu ?_)
            refine v_iinc (nI m - 1) C dX11_lay_221 rfl (nI_dec m) (Nat.le_of_ble_eq_true rfl) rfl ?_
            refine v_goto 186 C dX11_lay_224 (by decide) ?_
            exact ih m _ (lt_fuel hfuel) (by omega) (by first | (have q : wI u (Ib 78 m) (Ib 79 m) = 0 := h210; simpa [mwF, q] using hx) | (have q : ¬ wI u (Ib 78 m) (Ib 79 m) = 0 := h210; rw [nI_m1]; simpa [mwF, q] using hx))
    intro m c; exact loop (m + 1) m c (Nat.lt_succ_self m)
  refine v_iload_n C dX11_lay_0 rfl ?_
  refine v_callSi C c_X11_isPot mt_X11_isPot lk_RX11_207 rfl rfl rfl rfl rfl dX11_lay_1 ?_
  refine v_if_eq 79 C dX11_lay_4 (by decide) (fun h4 => ?_) (fun h4 => ?_)
  · refine v_iconst (-1) C dX11_lay_79 (by decide) ?_
    exact v_iret C dX11_lay_80 ⟨by simp [layOkm, *], rfl, by simp [layOkm, *], rfl, rfl⟩
  · refine v_aload_n C dX11_lay_7 rfl ?_
    refine v_getR 53 C fl_RX11_25 rfl (hs.1 47 _ rfl) (hs.2 47 13 53 rfl) dX11_lay_8 ?_
    refine v_iload_n C dX11_lay_11 rfl ?_
    refine v_iaload (ix p) C (hs.1 53 _ rfl) (wI_at h4 (by decide)) dX11_lay_12 ?_
    refine v_if_ge 79 C dX11_lay_13 (by decide) (fun h13 => ?_) (fun h13 => ?_)
    · refine v_iconst (-1) C dX11_lay_79 (by decide) ?_
      exact v_iret C dX11_lay_80 ⟨by simp [layOkm, *], rfl, by simp [layOkm, *], rfl, rfl⟩
    · refine v_aload_n C dX11_lay_16 rfl ?_
      refine v_getI C fl_RX11_210 rfl (hs.1 47 _ rfl) dX11_lay_17 ?_
      refine v_sipush 200 C dX11_lay_20 (by decide) ?_
      refine v_icmp_eq 79 C dX11_lay_23 (by decide) (fun h23 => ?_) (fun h23 => ?_)
      · refine v_iconst (-1) C dX11_lay_79 (by decide) ?_
        exact v_iret C dX11_lay_80 ⟨by simp [layOkm, *], rfl, by simp [layOkm, *], rfl, rfl⟩
      · refine v_iload_n C dX11_lay_26 rfl ?_
        refine v_iconst 1 C dX11_lay_27 (by decide) ?_
        refine v_sipush 200 C dX11_lay_28 (by decide) ?_
        refine v_callSi C c_X11_in mt_X11_in lk_RX11_140 rfl rfl rfl rfl rfl dX11_lay_31 ?_
        refine v_if_eq 79 C dX11_lay_34 (by decide) (fun h34 => ?_) (fun h34 => ?_)
        · refine v_iconst (-1) C dX11_lay_79 (by decide) ?_
          exact v_iret C dX11_lay_80 ⟨by simp [layOkm, *], rfl, by simp [layOkm, *], rfl, rfl⟩
        · refine v_iload_n C dX11_lay_37 rfl ?_
          refine v_iconst 0 C dX11_lay_38 (by decide) ?_
          refine v_sipush 200 C dX11_lay_39 (by decide) ?_
          refine v_callSi C c_X11_in mt_X11_in lk_RX11_140 rfl rfl rfl rfl rfl dX11_lay_42 ?_
          refine v_if_eq 79 C dX11_lay_45 (by decide) (fun h45 => ?_) (fun h45 => ?_)
          · refine v_iconst (-1) C dX11_lay_79 (by decide) ?_
            exact v_iret C dX11_lay_80 ⟨by simp [layOkm, *], rfl, by simp [layOkm, *], rfl, rfl⟩
          · refine v_iload C dX11_lay_48 rfl ?_
            refine v_iconst 0 C dX11_lay_50 (by decide) ?_
            refine v_sipush 200 C dX11_lay_51 (by decide) ?_
            refine v_callSi C c_X11_in mt_X11_in lk_RX11_140 rfl rfl rfl rfl rfl dX11_lay_54 ?_
            refine v_if_eq 79 C dX11_lay_57 (by decide) (fun h57 => ?_) (fun h57 => ?_)
            · refine v_iconst (-1) C dX11_lay_79 (by decide) ?_
              exact v_iret C dX11_lay_80 ⟨by simp [layOkm, *], rfl, by simp [layOkm, *], rfl, rfl⟩
            · refine v_iload C dX11_lay_60 rfl ?_
              refine v_aload_n C dX11_lay_62 rfl ?_
              refine v_getI C fl_RX11_213 rfl (hs.1 47 _ rfl) dX11_lay_63 ?_
              refine v_icmp_gt 79 C dX11_lay_66 (by decide) (fun h66 => ?_) (fun h66 => ?_)
              · refine v_iconst (-1) C dX11_lay_79 (by decide) ?_
                exact v_iret C dX11_lay_80 ⟨by simp [layOkm, *], rfl, by simp [layOkm, *], rfl, rfl⟩
              · refine v_aload_n C dX11_lay_69 rfl ?_
                refine v_getI C fl_RX11_144 rfl (hs.1 47 _ rfl) dX11_lay_70 ?_
                refine v_sipush 5000 C dX11_lay_73 (by decide) ?_
                refine v_icmp_ne 81 C dX11_lay_76 (by decide) (fun h76 => ?_) (fun h76 => ?_)
                · refine v_aload_n C dX11_lay_81 rfl ?_
                  refine v_dupr C dX11_lay_82 ?_
                  refine v_getI C fl_RX11_213 rfl (hs.1 47 _ rfl) dX11_lay_83 ?_
                  refine v_iload C dX11_lay_86 rfl ?_
                  refine v_isub C dX11_lay_88 ?_
                  refine v_putI C fl_RX11_213 rfl (hs.1 47 _ rfl) dX11_lay_89 ?_
                  refine v_aload_n C dX11_lay_92 rfl ?_
                  refine v_getR 53 C fl_RX11_25 rfl (hs.1 47 _ rfl) (hs.2 47 13 53 rfl) dX11_lay_93 ?_
                  refine v_iload_n C dX11_lay_96 rfl ?_
                  refine v_aload_n C dX11_lay_97 rfl ?_
                  refine v_getI C fl_RX11_210 rfl (hs.1 47 _ rfl) dX11_lay_98 ?_
                  refine v_iastore (ix p) C (hs.1 53 _ rfl) (wI_at h4 (by decide)) dX11_lay_101 ?_
                  refine v_aload_n C dX11_lay_102 rfl ?_
                  refine v_dupr C dX11_lay_103 ?_
                  refine v_getI C fl_RX11_210 rfl (hs.1 47 _ rfl) dX11_lay_104 ?_
                  refine v_iconst 1 C dX11_lay_107 (by decide) ?_
                  refine v_iadd C dX11_lay_108 ?_
                  refine v_putI C fl_RX11_210 rfl (hs.1 47 _ rfl) dX11_lay_109 ?_
                  refine v_aload_n C dX11_lay_112 rfl ?_
                  refine v_getR 54 C fl_RX11_28 rfl (hs.1 47 _ rfl) (hs.2 47 14 54 rfl) dX11_lay_113 ?_
                  refine v_iload_n C dX11_lay_116 rfl ?_
                  refine v_iload_n C dX11_lay_117 rfl ?_
                  refine v_iload_n C dX11_lay_118 rfl ?_
                  refine v_iconst 2 C dX11_lay_119 (by decide) ?_
                  refine v_idiv C dX11_lay_120 (by decide) ?_
                  refine v_iadd C dX11_lay_121 ?_
                  refine v_iload C dX11_lay_122 rfl ?_
                  refine v_iadd C dX11_lay_124 ?_
                  refine v_iastore (ix p) C (hs.1 54 _ rfl) (wI_at h4 (by decide)) dX11_lay_125 ?_
                  refine v_aload_n C dX11_lay_126 rfl ?_
                  refine v_getR 55 C fl_RX11_31 rfl (hs.1 47 _ rfl) (hs.2 47 15 55 rfl) dX11_lay_127 ?_
                  refine v_iload_n C dX11_lay_130 rfl ?_
                  refine v_iconst 0 C dX11_lay_131 (by decide) ?_
                  refine v_iastore (ix p) C (hs.1 55 _ rfl) (wI_at h4 (by decide)) dX11_lay_132 ?_
                  refine v_aload_n C dX11_lay_133 rfl ?_
                  refine v_getR 56 C fl_RX11_34 rfl (hs.1 47 _ rfl) (hs.2 47 16 56 rfl) dX11_lay_134 ?_
                  refine v_iload_n C dX11_lay_137 rfl ?_
                  refine v_bipush 60 C dX11_lay_138 (by decide) ?_
                  refine v_iload_n C dX11_lay_140 rfl ?_
                  refine v_imul C dX11_lay_141 ?_
                  refine v_bipush 10 C dX11_lay_142 (by decide) ?_
                  refine v_iload_n C dX11_lay_144 rfl ?_
                  refine v_imul C dX11_lay_145 ?_
                  refine v_iadd C dX11_lay_146 ?_
                  refine v_bipush 20 C dX11_lay_147 (by decide) ?_
                  refine v_iload C dX11_lay_149 rfl ?_
                  refine v_imul C dX11_lay_151 ?_
                  refine v_iadd C dX11_lay_152 ?_
                  refine v_iload_n C dX11_lay_153 rfl ?_
                  refine v_iload_n C dX11_lay_154 rfl ?_
                  refine v_iadd C dX11_lay_155 ?_
                  refine v_iload C dX11_lay_156 rfl ?_
                  refine v_iadd C dX11_lay_158 ?_
                  have hsum := lay_sum h34 h45 h57
                  refine v_idiv C dX11_lay_159 (ne_of_nle hsum.1) ?_
                  refine v_iastore (ix p) C (hs.1 56 _ rfl) (wI_at h4 (by decide)) dX11_lay_160 ?_
                  refine v_bipush 100 C dX11_lay_161 (by decide) ?_
                  refine v_iload_n C dX11_lay_163 rfl ?_
                  refine v_imul C dX11_lay_164 ?_
                  refine v_iload_n C dX11_lay_165 rfl ?_
                  refine v_iload_n C dX11_lay_166 rfl ?_
                  refine v_iadd C dX11_lay_167 ?_
                  refine v_idiv C dX11_lay_168 (ne_of_nle hsum.2) ?_
                  refine v_istore C dX11_lay_169 (Nat.le_of_ble_eq_true rfl) rfl ?_
                  refine v_aload_n C dX11_lay_171 rfl ?_
                  refine v_getR 57 C fl_RX11_37 rfl (hs.1 47 _ rfl) (hs.2 47 17 57 rfl) dX11_lay_172 ?_
                  refine v_iload_n C dX11_lay_175 rfl ?_
                  refine v_iconst (-1) C dX11_lay_176 (by decide) ?_
                  refine v_iastore (ix p) C (hs.1 57 _ rfl) (wI_at h4 (by decide)) dX11_lay_177 ?_
                  refine v_aload_n C dX11_lay_178 rfl ?_
                  refine v_getI C fl_RX11_204 rfl (hs.1 47 _ rfl) dX11_lay_179 ?_
                  refine v_iconst 1 C dX11_lay_182 (by decide) ?_
                  refine v_isub C dX11_lay_183 ?_
                  refine v_istore C dX11_lay_184 (Nat.le_of_ble_eq_true rfl) rfl ?_
                  refine v_lv (show _ = [some (.ref 47), some (.int p), some (.int s), some (.int h), some (.int b), some (.int (100 * h / (s + h))), some (.int (I 47 42 - 1))] from rfl) ?_
                  rw [hn]
                  refine big _ _ _ (wI_at h4 (by decide)) n (-1) (Nat.le_refl n) ?_
                  refine v_aload_n C dX11_lay_227 rfl ?_
                  refine v_getR 53 C fl_RX11_25 rfl (hs.1 47 _ rfl) (hs.2 47 13 53 rfl) dX11_lay_228 ?_
                  refine v_iload_n C dX11_lay_231 rfl ?_
                  refine v_iaload (ix p) C (hs.1 53 _ rfl) (wI_at h4 (by decide)) dX11_lay_232 ?_
                  have hok : layOkm I p s h b = true := by simp [layOkm, *]
                  exact v_iret C dX11_lay_233 (by rw [if_pos hok, if_pos hok]; exact ⟨by simp [iu_ap], rfl, rfl, rfl, rfl⟩)
                · refine v_iconst (-1) C dX11_lay_79 (by decide) ?_
                  exact v_iret C dX11_lay_80 ⟨by simp [layOkm, *], rfl, by simp [layOkm, *], rfl, rfl⟩
