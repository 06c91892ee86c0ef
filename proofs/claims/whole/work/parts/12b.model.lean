set_option maxHeartbeats 4000000 in
set_option maxRecDepth 100000 in
theorem c_X10_piece {lnc : Launch} {E : En} {sh : List Sh} {I : IM} {J : JM} {R : RM} {n : Nat} {k x : Int32} (pa : Nat → Nat) (hs : St sh R) (hn : I 0 14 = nI n) (hl : n ≤ 1000) (hp : ∀ k, k < n → R 38 k = some (pa k) ∧ sh[pa k]? = some (.inl 6)) : Ct lnc E yX10_piece cX10_piece 4 (some .int) 1 22 [.ref 0, .int k, .int x] sh I J R 0 0 (m_ret (some (.int (pieceR I pa k x))) sh I J R) := by
  refine Ct.of (lv := [some (.ref 0), some (.int k), some (.int x), none]) (by decide) (Nat.le_of_ble_eq_true rfl) rfl (fun X hX C => ?_)
  have hat : ¬ wI k 0 (I 0 14 - 1) = 0 → At k n (ix k) := fun h => wI_n (by rw [← hn]; exact h) (by omega)
  have hat2 : ¬ wI k 0 (I 0 14 - 1) = 0 → At k 1000 (ix k) := fun h => at_e ((hat h).eq (by omega)) (by have := (hat h).lt; omega) (by decide)
  refine v_iload_n C dX10_piece_0 rfl ?_
  refine v_iconst 0 C dX10_piece_1 (by decide) ?_
  refine v_aload_n C dX10_piece_2 rfl ?_
  refine v_getI C fl_RX10_220 rfl (hs.1 0 _ rfl) dX10_piece_3 ?_
  refine v_iconst 1 C dX10_piece_6 (by decide) ?_
  refine v_isub C dX10_piece_7 ?_
  refine v_callSi C c_X10_within mt_X10_within lk_RX10_88 rfl rfl rfl rfl rfl dX10_piece_8 ?_
  refine v_if_ne 16 C dX10_piece_11 (by decide) (fun h11 => ?_) (fun h11 => ?_)
  · refine v_aload_n C dX10_piece_16 rfl ?_
    refine v_getR 38 C fl_RX10_70 rfl (hs.1 0 _ rfl) (hs.2 0 8 38 rfl) dX10_piece_17 ?_
    refine v_iload_n C dX10_piece_20 rfl ?_
    refine v_aaload (ix k) C (hs.1 38 _ rfl) (cn := RX6) ⟨rfl, by decide, by decide⟩ ⟨rfl, (hat2 h11).2⟩ (hp _ (hat h11).lt).1 dX10_piece_21 ?_
    refine v_astore_n C dX10_piece_22 (Nat.le_of_ble_eq_true rfl) rfl ?_
    refine v_aload_n C dX10_piece_23 rfl ?_
    refine v_ifnonnull 31 C dX10_piece_24 (by decide) ?_
    refine v_aload_n C dX10_piece_31 rfl ?_
    refine v_iload_n C dX10_piece_32 rfl ?_
    refine v_callVi C (c_X6_tell (hp _ (hat h11).lt).2) mt_X6_tell lk_RX10_223 rfl rfl (hp _ (hat h11).lt).2 rfl rfl rfl rfl rfl dX10_piece_33 ?_
    exact v_iret C dX10_piece_36 ⟨by first | rw [pieceR, if_neg h11] | rw [pieceR, if_pos h11], rfl, rfl, rfl, rfl⟩
  · refine v_iconst (-1) C dX10_piece_14 (by decide) ?_
    exact v_iret C dX10_piece_15 ⟨by first | rw [pieceR, if_neg h11] | rw [pieceR, if_pos h11], rfl, rfl, rfl, rfl⟩

set_option maxHeartbeats 4000000 in
set_option maxRecDepth 100000 in
theorem c_X11_firstBay {lnc : Launch} {E : En} {sh : List Sh} {I : IM} {J : JM} {R : RM} (hs : St sh R) : Ct lnc E yX11_firstBay cX11_firstBay 2 (some .int) 0 0 [.ref 47] sh I J R 0 0 (m_ret (some (.int (fbRm (I 76 0) (I 76 1) (I 76 2)))) sh I J R) := by
  refine Ct.of (lv := [some (.ref 47), none]) (by decide) (Nat.le_of_ble_eq_true rfl) rfl (fun X hX C => ?_)
  refine v_iconst 0 C dX11_firstBay_0 (by decide) ?_
  refine v_istore_n C dX11_firstBay_1 (Nat.le_of_ble_eq_true rfl) rfl ?_
  refine v_iload_n C dX11_firstBay_2 rfl ?_
  refine v_iconst 3 C dX11_firstBay_3 (by decide) ?_
  refine v_icmp_ge 26 C dX11_firstBay_4 (by decide) (fun h4 => absurd h4 (by decide)) (fun _ => ?_)
  refine v_aload_n C dX11_firstBay_7 rfl ?_
  refine v_getR 76 C fl_RX11_95 rfl (hs.1 47 _ rfl) (hs.2 47 37 76 rfl) dX11_firstBay_8 ?_
  refine v_iload_n C dX11_firstBay_11 rfl ?_
  refine v_iaload 0 C (hs.1 76 _ rfl) (at_c rfl) dX11_firstBay_12 ?_
  refine v_bipush 20 C dX11_firstBay_13 (by decide) ?_
  refine v_icmp_ge 20 C dX11_firstBay_15 (by decide) (fun h15 => ?_) (fun h15 => ?_)
  · refine v_iinc 1 C dX11_firstBay_20 rfl (by decide) (Nat.le_of_ble_eq_true rfl) rfl ?_
    refine v_goto 2 C dX11_firstBay_23 (by decide) ?_
    refine v_iload_n C dX11_firstBay_2 rfl ?_
    refine v_iconst 3 C dX11_firstBay_3 (by decide) ?_
    refine v_icmp_ge 26 C dX11_firstBay_4 (by decide) (fun h4 => absurd h4 (by decide)) (fun _ => ?_)
    refine v_aload_n C dX11_firstBay_7 rfl ?_
    refine v_getR 76 C fl_RX11_95 rfl (hs.1 47 _ rfl) (hs.2 47 37 76 rfl) dX11_firstBay_8 ?_
    refine v_iload_n C dX11_firstBay_11 rfl ?_
    refine v_iaload 1 C (hs.1 76 _ rfl) (at_c rfl) dX11_firstBay_12 ?_
    refine v_bipush 20 C dX11_firstBay_13 (by decide) ?_
    refine v_icmp_ge 20 C dX11_firstBay_15 (by decide) (fun h15 => ?_) (fun h15 => ?_)
    · refine v_iinc 2 C dX11_firstBay_20 rfl (by decide) (Nat.le_of_ble_eq_true rfl) rfl ?_
      refine v_goto 2 C dX11_firstBay_23 (by decide) ?_
      refine v_iload_n C dX11_firstBay_2 rfl ?_
      refine v_iconst 3 C dX11_firstBay_3 (by decide) ?_
      refine v_icmp_ge 26 C dX11_firstBay_4 (by decide) (fun h4 => absurd h4 (by decide)) (fun _ => ?_)
      refine v_aload_n C dX11_firstBay_7 rfl ?_
      refine v_getR 76 C fl_RX11_95 rfl (hs.1 47 _ rfl) (hs.2 47 37 76 rfl) dX11_firstBay_8 ?_
      refine v_iload_n C dX11_firstBay_11 rfl ?_
      refine v_iaload 2 C (hs.1 76 _ rfl) (at_c rfl) dX11_firstBay_12 ?_
      refine v_bipush 20 C dX11_firstBay_13 (by decide) ?_
      refine v_icmp_ge 20 C dX11_firstBay_15 (by decide) (fun h15 => ?_) (fun h15 => ?_)
      · refine v_iinc 3 C dX11_firstBay_20 rfl (by decide) (Nat.le_of_ble_eq_true rfl) rfl ?_
        refine v_goto 2 C dX11_firstBay_23 (by decide) ?_
        refine v_iload_n C dX11_firstBay_2 rfl ?_
        refine v_iconst 3 C dX11_firstBay_3 (by decide) ?_
        refine v_icmp_ge 26 C dX11_firstBay_4 (by decide) (fun _ => ?_) (fun h4 => absurd h4 (by decide))
        refine v_iconst (-1) C dX11_firstBay_26 (by decide) ?_
        exact v_iret C dX11_firstBay_27 ⟨by simp [fbRm, *], rfl, rfl, rfl, rfl⟩
      · refine v_iload_n C dX11_firstBay_18 rfl ?_
        exact v_iret C dX11_firstBay_19 ⟨by simp [fbRm, *], rfl, rfl, rfl, rfl⟩
    · refine v_iload_n C dX11_firstBay_18 rfl ?_
      exact v_iret C dX11_firstBay_19 ⟨by simp [fbRm, *], rfl, rfl, rfl, rfl⟩
  · refine v_iload_n C dX11_firstBay_18 rfl ?_
    exact v_iret C dX11_firstBay_19 ⟨by simp [fbRm, *], rfl, rfl, rfl, rfl⟩

set_option maxHeartbeats 4000000 in
set_option maxRecDepth 100000 in
theorem c_X11_blow {lnc : Launch} {E : En} {sh : List Sh} {I : IM} {J : JM} {R : RM} {n : Nat} {g k p : Int32} (hs : St sh R) (hn : I 47 27 = nI n) (hnl : n < 1000) : Ct lnc E yX11_blow cX11_blow 6 (some .int) 2 42 [.ref 47, .int g, .int k, .int p] sh I J R 0 0 (m_ret (some (.int (blowRm I g k p))) sh (blowIm I n g k p) J R) := by
  refine Ct.of (lv := [some (.ref 47), some (.int g), some (.int k), some (.int p), none, none]) (by decide) (Nat.le_of_ble_eq_true rfl) rfl (fun X hX C => ?_)
  refine v_iload_n C dX11_blow_0 rfl ?_
  refine v_iconst 0 C dX11_blow_1 (by decide) ?_
  refine v_iconst 3 C dX11_blow_2 (by decide) ?_
  refine v_callSi C c_X11_in mt_X11_in lk_RX11_140 rfl rfl rfl rfl rfl dX11_blow_3 ?_
  refine v_if_eq 44 C dX11_blow_6 (by decide) (fun h6 => ?_) (fun h6 => ?_)
  · refine v_iconst 1 C dX11_blow_44 (by decide) ?_
    exact v_iret C dX11_blow_45 ⟨by clear hn; simp [blowRm, *], rfl, by clear hn; simp [blowIm, blowRm, *], rfl, rfl⟩
  · refine v_iload_n C dX11_blow_9 rfl ?_
    refine v_callSi C c_X11_isPot mt_X11_isPot lk_RX11_207 rfl rfl rfl rfl rfl dX11_blow_10 ?_
    refine v_if_eq 44 C dX11_blow_13 (by decide) (fun h13 => ?_) (fun h13 => ?_)
    · refine v_iconst 1 C dX11_blow_44 (by decide) ?_
      exact v_iret C dX11_blow_45 ⟨by clear hn; simp [blowRm, *], rfl, by clear hn; simp [blowIm, blowRm, *], rfl, rfl⟩
    · refine v_iload_n C dX11_blow_16 rfl ?_
      refine v_iconst 0 C dX11_blow_17 (by decide) ?_
      refine v_iconst 4 C dX11_blow_18 (by decide) ?_
      refine v_callSi C c_X11_in mt_X11_in lk_RX11_140 rfl rfl rfl rfl rfl dX11_blow_19 ?_
      refine v_if_eq 44 C dX11_blow_22 (by decide) (fun h22 => ?_) (fun h22 => ?_)
      · refine v_iconst 1 C dX11_blow_44 (by decide) ?_
        exact v_iret C dX11_blow_45 ⟨by clear hn; simp [blowRm, *], rfl, by clear hn; simp [blowIm, blowRm, *], rfl, rfl⟩
      · refine v_aload_n C dX11_blow_25 rfl ?_
        refine v_getR 58 C fl_RX11_40 rfl (hs.1 47 _ rfl) (hs.2 47 18 58 rfl) dX11_blow_26 ?_
        refine v_iload_n C dX11_blow_29 rfl ?_
        refine v_zaload (ix k) C (hs.1 58 _ rfl) (wI_at h22 (by decide)) dX11_blow_30 ?_
        refine v_if_eq 44 C dX11_blow_31 (by decide) (fun h31 => ?_) (fun h31 => ?_)
        · refine v_iconst 1 C dX11_blow_44 (by decide) ?_
          exact v_iret C dX11_blow_45 ⟨by clear hn; simp [blowRm, *], rfl, by clear hn; simp [blowIm, blowRm, *], rfl, rfl⟩
        · refine v_aload_n C dX11_blow_34 rfl ?_
          refine v_getI C fl_RX11_144 rfl (hs.1 47 _ rfl) dX11_blow_35 ?_
          refine v_sipush 5000 C dX11_blow_38 (by decide) ?_
          refine v_icmp_ne 46 C dX11_blow_41 (by decide) (fun h41 => ?_) (fun h41 => ?_)
          · refine v_aload_n C dX11_blow_46 rfl ?_
            refine v_getR 53 C fl_RX11_25 rfl (hs.1 47 _ rfl) (hs.2 47 13 53 rfl) dX11_blow_47 ?_
            refine v_iload_n C dX11_blow_50 rfl ?_
            refine v_iaload (ix p) C (hs.1 53 _ rfl) (wI_at h13 (by decide)) dX11_blow_51 ?_
            refine v_if_lt 63 C dX11_blow_52 (by decide) (fun h52 => ?_) (fun h52 => ?_)
            · refine v_iconst 2 C dX11_blow_63 (by decide) ?_
              exact v_iret C dX11_blow_64 ⟨by clear hn; simp [blowRm, *], rfl, by clear hn; simp [blowIm, blowRm, *], rfl, rfl⟩
            · refine v_aload_n C dX11_blow_55 rfl ?_
              refine v_iload_n C dX11_blow_56 rfl ?_
              refine v_callVi C (c_X11_isReady hs (wI_at h13 (by decide))) mt_X11_isReady lk_RX11_217 rfl rfl (hs.1 47 _ rfl) rfl rfl rfl rfl rfl dX11_blow_57 ?_
              refine v_if_ne 65 C dX11_blow_60 (by decide) (fun h60 => ?_) (fun h60 => ?_)
              · refine v_aload_n C dX11_blow_65 rfl ?_
                refine v_getI C fl_RX11_160 rfl (hs.1 47 _ rfl) dX11_blow_66 ?_
                refine v_sipush 900 C dX11_blow_69 (by decide) ?_
                refine v_icmp_ge 77 C dX11_blow_72 (by decide) (fun h72 => ?_) (fun h72 => ?_)
                · refine v_aload_n C dX11_blow_77 rfl ?_
                  refine v_getR 62 C fl_RX11_53 rfl (hs.1 47 _ rfl) (hs.2 47 22 62 rfl) dX11_blow_78 ?_
                  refine v_iload_n C dX11_blow_81 rfl ?_
                  refine v_iaload (ix k) C (hs.1 62 _ rfl) (wI_at h22 (by decide)) dX11_blow_82 ?_
                  refine v_iconst (-1) C dX11_blow_83 (by decide) ?_
                  refine v_icmp_eq 104 C dX11_blow_84 (by decide) (fun h84 => ?_) (fun h84 => ?_)
                  · refine v_aload_n C dX11_blow_104 rfl ?_
                    refine v_getR 54 C fl_RX11_28 rfl (hs.1 47 _ rfl) (hs.2 47 14 54 rfl) dX11_blow_105 ?_
                    refine v_iload_n C dX11_blow_108 rfl ?_
                    refine v_iaload (ix p) C (hs.1 54 _ rfl) (wI_at h13 (by decide)) dX11_blow_109 ?_
                    refine v_aload_n C dX11_blow_110 rfl ?_
                    refine v_getR 59 C fl_RX11_44 rfl (hs.1 47 _ rfl) (hs.2 47 19 59 rfl) dX11_blow_111 ?_
                    refine v_iload_n C dX11_blow_114 rfl ?_
                    refine v_iaload (ix k) C (hs.1 59 _ rfl) (wI_at h22 (by decide)) dX11_blow_115 ?_
                    refine v_icmp_ge 121 C dX11_blow_116 (by decide) (fun h116 => ?_) (fun h116 => ?_)
                    · refine v_aload_n C dX11_blow_121 rfl ?_
                      refine v_getR 66 C fl_RX11_65 rfl (hs.1 47 _ rfl) (hs.2 47 26 66 rfl) dX11_blow_122 ?_
                      refine v_iload_n C dX11_blow_125 rfl ?_
                      refine v_iaload (ix g) C (hs.1 66 _ rfl) (wI_at h6 (by decide)) dX11_blow_126 ?_
                      refine v_aload_n C dX11_blow_127 rfl ?_
                      refine v_getR 60 C fl_RX11_47 rfl (hs.1 47 _ rfl) (hs.2 47 20 60 rfl) dX11_blow_128 ?_
                      refine v_iload_n C dX11_blow_131 rfl ?_
                      refine v_iaload (ix k) C (hs.1 60 _ rfl) (wI_at h22 (by decide)) dX11_blow_132 ?_
                      refine v_icmp_ge 139 C dX11_blow_133 (by decide) (fun h133 => ?_) (fun h133 => ?_)
                      · refine v_aload_n C dX11_blow_139 rfl ?_
                        refine v_callVi C (c_X11_firstBay hs) mt_X11_firstBay lk_RX11_220 rfl rfl (hs.1 47 _ rfl) rfl rfl rfl rfl rfl dX11_blow_140 ?_
                        refine v_istore C dX11_blow_143 (Nat.le_of_ble_eq_true rfl) rfl ?_
                        refine v_iload C dX11_blow_145 rfl ?_
                        refine v_if_lt 160 C dX11_blow_147 (by decide) (fun h147 => ?_) (fun h147 => ?_)
                        · refine v_bipush 7 C dX11_blow_160 (by decide) ?_
                          exact v_iret C dX11_blow_162 ⟨by clear hn; simp [blowRm, *], rfl, by clear hn; simp [blowIm, blowRm, *], rfl, rfl⟩
                        · refine v_aload_n C dX11_blow_150 rfl ?_
                          refine v_getI C fl_RX11_223 rfl (hs.1 47 _ rfl) dX11_blow_151 ?_
                          refine v_sipush 1000 C dX11_blow_154 (by decide) ?_
                          refine v_icmp_ne 163 C dX11_blow_157 (by decide) (fun h157 => ?_) (fun h157 => ?_)
                          · have hr : blowRm I g k p = 0 := by clear hn; simp [blowRm, *]
                            refine v_aload_n C dX11_blow_163 rfl ?_
                            refine v_getR 54 C fl_RX11_28 rfl (hs.1 47 _ rfl) (hs.2 47 14 54 rfl) dX11_blow_164 ?_
                            refine v_iload_n C dX11_blow_167 rfl ?_
                            refine v_dup2ir C dX11_blow_168 ?_
                            refine v_iaload (ix p) C (hs.1 54 _ rfl) (wI_at h13 (by decide)) dX11_blow_169 ?_
                            refine v_aload_n C dX11_blow_170 rfl ?_
                            refine v_getR 59 C fl_RX11_44 rfl (hs.1 47 _ rfl) (hs.2 47 19 59 rfl) dX11_blow_171 ?_
                            refine v_iload_n C dX11_blow_174 rfl ?_
                            refine v_iaload (ix k) C (hs.1 59 _ rfl) (wI_at h22 (by decide)) dX11_blow_175 ?_
                            refine v_isub C dX11_blow_176 ?_
                            refine v_iastore (ix p) C (hs.1 54 _ rfl) (wI_at h13 (by decide)) dX11_blow_177 ?_
                            refine v_aload_n C dX11_blow_178 rfl ?_
                            refine v_getR 66 C fl_RX11_65 rfl (hs.1 47 _ rfl) (hs.2 47 26 66 rfl) dX11_blow_179 ?_
                            refine v_iload_n C dX11_blow_182 rfl ?_
                            refine v_dup2ir C dX11_blow_183 ?_
                            refine v_iaload (ix g) C (hs.1 66 _ rfl) (wI_at h6 (by decide)) dX11_blow_184 ?_
                            refine v_aload_n C dX11_blow_185 rfl ?_
                            refine v_getR 60 C fl_RX11_47 rfl (hs.1 47 _ rfl) (hs.2 47 20 60 rfl) dX11_blow_186 ?_
                            refine v_iload_n C dX11_blow_189 rfl ?_
                            refine v_iaload (ix k) C (hs.1 60 _ rfl) (wI_at h22 (by decide)) dX11_blow_190 ?_
                            refine v_isub C dX11_blow_191 ?_
                            refine v_iastore (ix g) C (hs.1 66 _ rfl) (wI_at h6 (by decide)) dX11_blow_192 ?_
                            refine v_aload_n C dX11_blow_193 rfl ?_
                            refine v_getR 65 C fl_RX11_62 rfl (hs.1 47 _ rfl) (hs.2 47 25 65 rfl) dX11_blow_194 ?_
                            refine v_iload_n C dX11_blow_197 rfl ?_
                            refine v_dup2ir C dX11_blow_198 ?_
                            refine v_iaload (ix k) C (hs.1 65 _ rfl) (wI_at h22 (by decide)) dX11_blow_199 ?_
                            refine v_iconst 1 C dX11_blow_200 (by decide) ?_
                            refine v_iadd C dX11_blow_201 ?_
                            refine v_iastore (ix k) C (hs.1 65 _ rfl) (wI_at h22 (by decide)) dX11_blow_202 ?_
                            refine v_aload_n C dX11_blow_203 rfl ?_
                            refine v_getR 67 C fl_RX11_68 rfl (hs.1 47 _ rfl) (hs.2 47 28 67 rfl) dX11_blow_204 ?_
                            refine v_aload_n C dX11_blow_207 rfl ?_
                            refine v_getI C fl_RX11_223 rfl (hs.1 47 _ rfl) dX11_blow_208 ?_
                            refine v_iload_n C dX11_blow_211 rfl ?_
                            refine v_iastore n C (hs.1 67 _ rfl) (at_e (show I 47 27 = nI n from hn) hnl (by decide)) dX11_blow_212 ?_
                            refine v_aload_n C dX11_blow_213 rfl ?_
                            refine v_getR 68 C fl_RX11_71 rfl (hs.1 47 _ rfl) (hs.2 47 29 68 rfl) dX11_blow_214 ?_
                            refine v_aload_n C dX11_blow_217 rfl ?_
                            refine v_getI C fl_RX11_223 rfl (hs.1 47 _ rfl) dX11_blow_218 ?_
                            refine v_iload_n C dX11_blow_221 rfl ?_
                            refine v_iastore n C (hs.1 68 _ rfl) (at_e (show I 47 27 = nI n from hn) hnl (by decide)) dX11_blow_222 ?_
                            refine v_aload_n C dX11_blow_223 rfl ?_
                            refine v_getR 69 C fl_RX11_74 rfl (hs.1 47 _ rfl) (hs.2 47 30 69 rfl) dX11_blow_224 ?_
                            refine v_aload_n C dX11_blow_227 rfl ?_
                            refine v_getI C fl_RX11_223 rfl (hs.1 47 _ rfl) dX11_blow_228 ?_
                            refine v_aload_n C dX11_blow_231 rfl ?_
                            refine v_getR 53 C fl_RX11_25 rfl (hs.1 47 _ rfl) (hs.2 47 13 53 rfl) dX11_blow_232 ?_
                            refine v_iload_n C dX11_blow_235 rfl ?_
                            refine v_iaload (ix p) C (hs.1 53 _ rfl) (wI_at h13 (by decide)) dX11_blow_236 ?_
                            refine v_iastore n C (hs.1 69 _ rfl) (at_e (show I 47 27 = nI n from hn) hnl (by decide)) dX11_blow_237 ?_
                            refine v_aload_n C dX11_blow_238 rfl ?_
                            refine v_getR 70 C fl_RX11_77 rfl (hs.1 47 _ rfl) (hs.2 47 31 70 rfl) dX11_blow_239 ?_
                            refine v_aload_n C dX11_blow_242 rfl ?_
                            refine v_getI C fl_RX11_223 rfl (hs.1 47 _ rfl) dX11_blow_243 ?_
                            refine v_aload_n C dX11_blow_246 rfl ?_
                            refine v_getI C fl_RX11_144 rfl (hs.1 47 _ rfl) dX11_blow_247 ?_
                            refine v_iastore n C (hs.1 70 _ rfl) (at_e (show I 47 27 = nI n from hn) hnl (by decide)) dX11_blow_250 ?_
                            refine v_aload_n C dX11_blow_251 rfl ?_
                            refine v_getR 75 C fl_RX11_92 rfl (hs.1 47 _ rfl) (hs.2 47 36 75 rfl) dX11_blow_252 ?_
                            refine v_aload_n C dX11_blow_255 rfl ?_
                            refine v_getI C fl_RX11_223 rfl (hs.1 47 _ rfl) dX11_blow_256 ?_
                            refine v_aload_n C dX11_blow_259 rfl ?_
                            refine v_getR 59 C fl_RX11_44 rfl (hs.1 47 _ rfl) (hs.2 47 19 59 rfl) dX11_blow_260 ?_
                            refine v_iload_n C dX11_blow_263 rfl ?_
                            refine v_iaload (ix k) C (hs.1 59 _ rfl) (wI_at h22 (by decide)) dX11_blow_264 ?_
                            refine v_iastore n C (hs.1 75 _ rfl) (at_e (show I 47 27 = nI n from hn) hnl (by decide)) dX11_blow_265 ?_
                            refine v_aload_n C dX11_blow_266 rfl ?_
                            refine v_getR 74 C fl_RX11_89 rfl (hs.1 47 _ rfl) (hs.2 47 35 74 rfl) dX11_blow_267 ?_
                            refine v_aload_n C dX11_blow_270 rfl ?_
                            refine v_getI C fl_RX11_223 rfl (hs.1 47 _ rfl) dX11_blow_271 ?_
                            refine v_aload_n C dX11_blow_274 rfl ?_
                            refine v_getR 64 C fl_RX11_59 rfl (hs.1 47 _ rfl) (hs.2 47 24 64 rfl) dX11_blow_275 ?_
                            refine v_iload_n C dX11_blow_278 rfl ?_
                            refine v_iaload (ix k) C (hs.1 64 _ rfl) (wI_at h22 (by decide)) dX11_blow_279 ?_
                            refine v_iastore n C (hs.1 74 _ rfl) (at_e (show I 47 27 = nI n from hn) hnl (by decide)) dX11_blow_280 ?_
                            refine v_aload_n C dX11_blow_281 rfl ?_
                            refine v_getR 73 C fl_RX11_86 rfl (hs.1 47 _ rfl) (hs.2 47 34 73 rfl) dX11_blow_282 ?_
                            refine v_aload_n C dX11_blow_285 rfl ?_
                            refine v_getI C fl_RX11_223 rfl (hs.1 47 _ rfl) dX11_blow_286 ?_
                            refine v_iconst 0 C dX11_blow_289 (by decide) ?_
                            refine v_iastore n C (hs.1 73 _ rfl) (at_e (show I 47 27 = nI n from hn) hnl (by decide)) dX11_blow_290 ?_
                            refine v_aload_n C dX11_blow_291 rfl ?_
                            refine v_getR 63 C fl_RX11_56 rfl (hs.1 47 _ rfl) (hs.2 47 23 63 rfl) dX11_blow_292 ?_
                            refine v_iload_n C dX11_blow_295 rfl ?_
                            refine v_iaload (ix k) C (hs.1 63 _ rfl) (wI_at h22 (by decide)) dX11_blow_296 ?_
                            refine v_if_le 320 C dX11_blow_297 (by decide) (fun h297 => ?_) (fun h297 => ?_)
                            · have hb : brk (I 63 (ix k)) (I 65 (ix k) + 1) = 0 := by first | exact if_pos (show I 63 (ix k) ≤ 0 from h297) | (have b1 : ¬ I 63 (ix k) ≤ 0 := h297; have b2 : ¬ I 65 (ix k) + 1 - (I 65 (ix k) + 1) / I 63 (ix k) * I 63 (ix k) = 0 := (by simpa [iu_ap] using h313); simp [brk, b1, b2])
                              refine v_iconst 0 C dX11_blow_320 (by decide) ?_
                              refine v_istore C dX11_blow_321 (Nat.le_of_ble_eq_true rfl) rfl ?_
                              refine v_aload_n C dX11_blow_323 rfl ?_
                              refine v_getR 71 C fl_RX11_80 rfl (hs.1 47 _ rfl) (hs.2 47 32 71 rfl) dX11_blow_324 ?_
                              refine v_aload_n C dX11_blow_327 rfl ?_
                              refine v_getI C fl_RX11_223 rfl (hs.1 47 _ rfl) dX11_blow_328 ?_
                              refine v_iload C dX11_blow_331 rfl ?_
                              refine v_if_eq 340 C dX11_blow_333 (by decide) (fun _ => ?_) (fun h333 => absurd h333 (by decide))
                              refine v_iconst 0 C dX11_blow_340 (by decide) ?_
                              refine v_iastore n C (hs.1 71 _ rfl) (at_e (show I 47 27 = nI n from hn) hnl (by decide)) dX11_blow_341 ?_
                              refine v_aload_n C dX11_blow_342 rfl ?_
                              refine v_getR 72 C fl_RX11_83 rfl (hs.1 47 _ rfl) (hs.2 47 33 72 rfl) dX11_blow_343 ?_
                              refine v_aload_n C dX11_blow_346 rfl ?_
                              refine v_getI C fl_RX11_223 rfl (hs.1 47 _ rfl) dX11_blow_347 ?_
                              refine v_iload C dX11_blow_350 rfl ?_
                              refine v_if_eq 359 C dX11_blow_352 (by decide) (fun _ => ?_) (fun h352 => absurd h352 (by decide))
                              refine v_iload C dX11_blow_359 rfl ?_
                              refine v_iastore n C (hs.1 72 _ rfl) (at_e (show I 47 27 = nI n from hn) hnl (by decide)) dX11_blow_361 ?_
                              refine v_iload C dX11_blow_362 rfl ?_
                              refine v_if_eq 385 C dX11_blow_364 (by decide) (fun _ => ?_) (fun h364 => absurd h364 (by decide))
                              refine v_aload_n C dX11_blow_385 rfl ?_
                              refine v_getR 76 C fl_RX11_95 rfl (hs.1 47 _ rfl) (hs.2 47 37 76 rfl) dX11_blow_386 ?_
                              refine v_iload C dX11_blow_389 rfl ?_
                              refine v_dup2ir C dX11_blow_391 ?_
                              refine v_iaload (ix (fbRm (I 76 0) (I 76 1) (I 76 2))) C (hs.1 76 _ rfl) (fbRm_at h147) dX11_blow_392 ?_
                              refine v_iconst 1 C dX11_blow_393 (by decide) ?_
                              refine v_iadd C dX11_blow_394 ?_
                              refine v_iastore (ix (fbRm (I 76 0) (I 76 1) (I 76 2))) C (hs.1 76 _ rfl) (fbRm_at h147) dX11_blow_395 ?_
                              refine v_aload_n C dX11_blow_396 rfl ?_
                              refine v_dupr C dX11_blow_397 ?_
                              refine v_getI C fl_RX11_223 rfl (hs.1 47 _ rfl) dX11_blow_398 ?_
                              refine v_iconst 1 C dX11_blow_401 (by decide) ?_
                              refine v_iadd C dX11_blow_402 ?_
                              refine v_putI C fl_RX11_223 rfl (hs.1 47 _ rfl) dX11_blow_403 ?_
                              refine v_aload_n C dX11_blow_406 rfl ?_
                              refine v_getR 54 C fl_RX11_28 rfl (hs.1 47 _ rfl) (hs.2 47 14 54 rfl) dX11_blow_407 ?_
                              refine v_iload_n C dX11_blow_410 rfl ?_
                              refine v_iaload (ix p) C (hs.1 54 _ rfl) (wI_at h13 (by decide)) dX11_blow_411 ?_
                              refine v_if_ne 422 C dX11_blow_412 (by decide) (fun h412 => ?_) (fun h412 => ?_)
                              · refine v_iconst 0 C dX11_blow_422 (by decide) ?_
                                refine v_iret C dX11_blow_423 ⟨by rw [hr], rfl, ?_, rfl, rfl⟩
                                rw [blowIm, if_pos hr]
                                first | (have hz : I 54 (ix p) - I 59 (ix k) = 0 := (by simpa [iu_ap] using h412); simp [blowFm, blowCm, hb, hz, blowBm, iu_ap]; done) | (have hz : ¬ I 54 (ix p) - I 59 (ix k) = 0 := (by simpa [iu_ap] using h412); simp [blowFm, blowCm, hb, hz, blowBm, iu_ap]; done)
                              · refine v_aload_n C dX11_blow_415 rfl ?_
                                refine v_getR 53 C fl_RX11_25 rfl (hs.1 47 _ rfl) (hs.2 47 13 53 rfl) dX11_blow_416 ?_
                                refine v_iload_n C dX11_blow_419 rfl ?_
                                refine v_iconst (-1) C dX11_blow_420 (by decide) ?_
                                refine v_iastore (ix p) C (hs.1 53 _ rfl) (wI_at h13 (by decide)) dX11_blow_421 ?_
                                refine v_iconst 0 C dX11_blow_422 (by decide) ?_
                                refine v_iret C dX11_blow_423 ⟨by rw [hr], rfl, ?_, rfl, rfl⟩
                                rw [blowIm, if_pos hr]
                                first | (have hz : I 54 (ix p) - I 59 (ix k) = 0 := (by simpa [iu_ap] using h412); simp [blowFm, blowCm, hb, hz, blowBm, iu_ap]; done) | (have hz : ¬ I 54 (ix p) - I 59 (ix k) = 0 := (by simpa [iu_ap] using h412); simp [blowFm, blowCm, hb, hz, blowBm, iu_ap]; done)
                            · refine v_aload_n C dX11_blow_300 rfl ?_
                              refine v_getR 65 C fl_RX11_62 rfl (hs.1 47 _ rfl) (hs.2 47 25 65 rfl) dX11_blow_301 ?_
                              refine v_iload_n C dX11_blow_304 rfl ?_
                              refine v_iaload (ix k) C (hs.1 65 _ rfl) (wI_at h22 (by decide)) dX11_blow_305 ?_
                              refine v_aload_n C dX11_blow_306 rfl ?_
                              refine v_getR 63 C fl_RX11_56 rfl (hs.1 47 _ rfl) (hs.2 47 23 63 rfl) dX11_blow_307 ?_
                              refine v_iload_n C dX11_blow_310 rfl ?_
                              refine v_iaload (ix k) C (hs.1 63 _ rfl) (wI_at h22 (by decide)) dX11_blow_311 ?_
                              refine v_irem C dX11_blow_312 (ne_of_nle h297) ?_
                              refine v_if_ne 320 C dX11_blow_313 (by decide) (fun h313 => ?_) (fun h313 => ?_)
                              · have hb : brk (I 63 (ix k)) (I 65 (ix k) + 1) = 0 := by first | exact if_pos (show I 63 (ix k) ≤ 0 from h297) | (have b1 : ¬ I 63 (ix k) ≤ 0 := h297; have b2 : ¬ I 65 (ix k) + 1 - (I 65 (ix k) + 1) / I 63 (ix k) * I 63 (ix k) = 0 := (by simpa [iu_ap] using h313); simp [brk, b1, b2])
                                refine v_iconst 0 C dX11_blow_320 (by decide) ?_
                                refine v_istore C dX11_blow_321 (Nat.le_of_ble_eq_true rfl) rfl ?_
                                refine v_aload_n C dX11_blow_323 rfl ?_
                                refine v_getR 71 C fl_RX11_80 rfl (hs.1 47 _ rfl) (hs.2 47 32 71 rfl) dX11_blow_324 ?_
                                refine v_aload_n C dX11_blow_327 rfl ?_
                                refine v_getI C fl_RX11_223 rfl (hs.1 47 _ rfl) dX11_blow_328 ?_
                                refine v_iload C dX11_blow_331 rfl ?_
                                refine v_if_eq 340 C dX11_blow_333 (by decide) (fun _ => ?_) (fun h333 => absurd h333 (by decide))
                                refine v_iconst 0 C dX11_blow_340 (by decide) ?_
                                refine v_iastore n C (hs.1 71 _ rfl) (at_e (show I 47 27 = nI n from hn) hnl (by decide)) dX11_blow_341 ?_
                                refine v_aload_n C dX11_blow_342 rfl ?_
                                refine v_getR 72 C fl_RX11_83 rfl (hs.1 47 _ rfl) (hs.2 47 33 72 rfl) dX11_blow_343 ?_
                                refine v_aload_n C dX11_blow_346 rfl ?_
                                refine v_getI C fl_RX11_223 rfl (hs.1 47 _ rfl) dX11_blow_347 ?_
                                refine v_iload C dX11_blow_350 rfl ?_
                                refine v_if_eq 359 C dX11_blow_352 (by decide) (fun _ => ?_) (fun h352 => absurd h352 (by decide))
                                refine v_iload C dX11_blow_359 rfl ?_
                                refine v_iastore n C (hs.1 72 _ rfl) (at_e (show I 47 27 = nI n from hn) hnl (by decide)) dX11_blow_361 ?_
                                refine v_iload C dX11_blow_362 rfl ?_
                                refine v_if_eq 385 C dX11_blow_364 (by decide) (fun _ => ?_) (fun h364 => absurd h364 (by decide))
                                refine v_aload_n C dX11_blow_385 rfl ?_
                                refine v_getR 76 C fl_RX11_95 rfl (hs.1 47 _ rfl) (hs.2 47 37 76 rfl) dX11_blow_386 ?_
                                refine v_iload C dX11_blow_389 rfl ?_
                                refine v_dup2ir C dX11_blow_391 ?_
                                refine v_iaload (ix (fbRm (I 76 0) (I 76 1) (I 76 2))) C (hs.1 76 _ rfl) (fbRm_at h147) dX11_blow_392 ?_
                                refine v_iconst 1 C dX11_blow_393 (by decide) ?_
                                refine v_iadd C dX11_blow_394 ?_
                                refine v_iastore (ix (fbRm (I 76 0) (I 76 1) (I 76 2))) C (hs.1 76 _ rfl) (fbRm_at h147) dX11_blow_395 ?_
                                refine v_aload_n C dX11_blow_396 rfl ?_
                                refine v_dupr C dX11_blow_397 ?_
                                refine v_getI C fl_RX11_223 rfl (hs.1 47 _ rfl) dX11_blow_398 ?_
                                refine v_iconst 1 C dX11_blow_401 (by decide) ?_
                                refine v_iadd C dX11_blow_402 ?_
                                refine v_putI C fl_RX11_223 rfl (hs.1 47 _ rfl) dX11_blow_403 ?_
                                refine v_aload_n C dX11_blow_406 rfl ?_
                                refine v_getR 54 C fl_RX11_28 rfl (hs.1 47 _ rfl) (hs.2 47 14 54 rfl) dX11_blow_407 ?_
                                refine v_iload_n C dX11_blow_410 rfl ?_
                                refine v_iaload (ix p) C (hs.1 54 _ rfl) (wI_at h13 (by decide)) dX11_blow_411 ?_
                                refine v_if_ne 422 C dX11_blow_412 (by decide) (fun h412 => ?_) (fun h412 => ?_)
                                · refine v_iconst 0 C dX11_blow_422 (by decide) ?_
                                  refine v_iret C dX11_blow_423 ⟨by rw [hr], rfl, ?_, rfl, rfl⟩
                                  rw [blowIm, if_pos hr]
                                  first | (have hz : I 54 (ix p) - I 59 (ix k) = 0 := (by simpa [iu_ap] using h412); simp [blowFm, blowCm, hb, hz, blowBm, iu_ap]; done) | (have hz : ¬ I 54 (ix p) - I 59 (ix k) = 0 := (by simpa [iu_ap] using h412); simp [blowFm, blowCm, hb, hz, blowBm, iu_ap]; done)
                                · refine v_aload_n C dX11_blow_415 rfl ?_
                                  refine v_getR 53 C fl_RX11_25 rfl (hs.1 47 _ rfl) (hs.2 47 13 53 rfl) dX11_blow_416 ?_
                                  refine v_iload_n C dX11_blow_419 rfl ?_
                                  refine v_iconst (-1) C dX11_blow_420 (by decide) ?_
                                  refine v_iastore (ix p) C (hs.1 53 _ rfl) (wI_at h13 (by decide)) dX11_blow_421 ?_
                                  refine v_iconst 0 C dX11_blow_422 (by decide) ?_
                                  refine v_iret C dX11_blow_423 ⟨by rw [hr], rfl, ?_, rfl, rfl⟩
                                  rw [blowIm, if_pos hr]
                                  first | (have hz : I 54 (ix p) - I 59 (ix k) = 0 := (by simpa [iu_ap] using h412); simp [blowFm, blowCm, hb, hz, blowBm, iu_ap]; done) | (have hz : ¬ I 54 (ix p) - I 59 (ix k) = 0 := (by simpa [iu_ap] using h412); simp [blowFm, blowCm, hb, hz, blowBm, iu_ap]; done)
                              · have hb : ¬ brk (I 63 (ix k)) (I 65 (ix k) + 1) = 0 := by have b1 : ¬ I 63 (ix k) ≤ 0 := h297; have b2 : I 65 (ix k) + 1 - (I 65 (ix k) + 1) / I 63 (ix k) * I 63 (ix k) = 0 := (by simpa [iu_ap] using h313); simp [brk, b1, b2]
                                refine v_iconst 1 C dX11_blow_316 (by decide) ?_
                                refine v_goto 321 C dX11_blow_317 (by decide) ?_
                                refine v_istore C dX11_blow_321 (Nat.le_of_ble_eq_true rfl) rfl ?_
                                refine v_aload_n C dX11_blow_323 rfl ?_
                                refine v_getR 71 C fl_RX11_80 rfl (hs.1 47 _ rfl) (hs.2 47 32 71 rfl) dX11_blow_324 ?_
                                refine v_aload_n C dX11_blow_327 rfl ?_
                                refine v_getI C fl_RX11_223 rfl (hs.1 47 _ rfl) dX11_blow_328 ?_
                                refine v_iload C dX11_blow_331 rfl ?_
                                refine v_if_eq 340 C dX11_blow_333 (by decide) (fun h333 => absurd h333 (by decide)) (fun _ => ?_)
                                refine v_iconst 2 C dX11_blow_336 (by decide) ?_
                                refine v_goto 341 C dX11_blow_337 (by decide) ?_
                                refine v_iastore n C (hs.1 71 _ rfl) (at_e (show I 47 27 = nI n from hn) hnl (by decide)) dX11_blow_341 ?_
                                refine v_aload_n C dX11_blow_342 rfl ?_
                                refine v_getR 72 C fl_RX11_83 rfl (hs.1 47 _ rfl) (hs.2 47 33 72 rfl) dX11_blow_343 ?_
                                refine v_aload_n C dX11_blow_346 rfl ?_
                                refine v_getI C fl_RX11_223 rfl (hs.1 47 _ rfl) dX11_blow_347 ?_
                                refine v_iload C dX11_blow_350 rfl ?_
                                refine v_if_eq 359 C dX11_blow_352 (by decide) (fun h352 => absurd h352 (by decide)) (fun _ => ?_)
                                refine v_iconst (-1) C dX11_blow_355 (by decide) ?_
                                refine v_goto 361 C dX11_blow_356 (by decide) ?_
                                refine v_iastore n C (hs.1 72 _ rfl) (at_e (show I 47 27 = nI n from hn) hnl (by decide)) dX11_blow_361 ?_
                                refine v_iload C dX11_blow_362 rfl ?_
                                refine v_if_eq 385 C dX11_blow_364 (by decide) (fun h364 => absurd h364 (by decide)) (fun _ => ?_)
                                refine v_aload_n C dX11_blow_367 rfl ?_
                                refine v_dupr C dX11_blow_368 ?_
                                refine v_getI C fl_RX11_213 rfl (hs.1 47 _ rfl) dX11_blow_369 ?_
                                refine v_aload_n C dX11_blow_372 rfl ?_
                                refine v_getR 59 C fl_RX11_44 rfl (hs.1 47 _ rfl) (hs.2 47 19 59 rfl) dX11_blow_373 ?_
                                refine v_iload_n C dX11_blow_376 rfl ?_
                                refine v_iaload (ix k) C (hs.1 59 _ rfl) (wI_at h22 (by decide)) dX11_blow_377 ?_
                                refine v_iadd C dX11_blow_378 ?_
                                refine v_putI C fl_RX11_213 rfl (hs.1 47 _ rfl) dX11_blow_379 ?_
                                refine v_goto 396 C dX11_blow_382 (by decide) ?_
                                refine v_aload_n C dX11_blow_396 rfl ?_
                                refine v_dupr C dX11_blow_397 ?_
                                refine v_getI C fl_RX11_223 rfl (hs.1 47 _ rfl) dX11_blow_398 ?_
                                refine v_iconst 1 C dX11_blow_401 (by decide) ?_
                                refine v_iadd C dX11_blow_402 ?_
                                refine v_putI C fl_RX11_223 rfl (hs.1 47 _ rfl) dX11_blow_403 ?_
                                refine v_aload_n C dX11_blow_406 rfl ?_
                                refine v_getR 54 C fl_RX11_28 rfl (hs.1 47 _ rfl) (hs.2 47 14 54 rfl) dX11_blow_407 ?_
                                refine v_iload_n C dX11_blow_410 rfl ?_
                                refine v_iaload (ix p) C (hs.1 54 _ rfl) (wI_at h13 (by decide)) dX11_blow_411 ?_
                                refine v_if_ne 422 C dX11_blow_412 (by decide) (fun h412 => ?_) (fun h412 => ?_)
                                · refine v_iconst 0 C dX11_blow_422 (by decide) ?_
                                  refine v_iret C dX11_blow_423 ⟨by rw [hr], rfl, ?_, rfl, rfl⟩
                                  rw [blowIm, if_pos hr]
                                  first | (have hz : I 54 (ix p) - I 59 (ix k) = 0 := (by simpa [iu_ap] using h412); simp [blowFm, blowCm, hb, hz, blowBm, iu_ap]; done) | (have hz : ¬ I 54 (ix p) - I 59 (ix k) = 0 := (by simpa [iu_ap] using h412); simp [blowFm, blowCm, hb, hz, blowBm, iu_ap]; done)
                                · refine v_aload_n C dX11_blow_415 rfl ?_
                                  refine v_getR 53 C fl_RX11_25 rfl (hs.1 47 _ rfl) (hs.2 47 13 53 rfl) dX11_blow_416 ?_
                                  refine v_iload_n C dX11_blow_419 rfl ?_
                                  refine v_iconst (-1) C dX11_blow_420 (by decide) ?_
                                  refine v_iastore (ix p) C (hs.1 53 _ rfl) (wI_at h13 (by decide)) dX11_blow_421 ?_
                                  refine v_iconst 0 C dX11_blow_422 (by decide) ?_
                                  refine v_iret C dX11_blow_423 ⟨by rw [hr], rfl, ?_, rfl, rfl⟩
                                  rw [blowIm, if_pos hr]
                                  first | (have hz : I 54 (ix p) - I 59 (ix k) = 0 := (by simpa [iu_ap] using h412); simp [blowFm, blowCm, hb, hz, blowBm, iu_ap]; done) | (have hz : ¬ I 54 (ix p) - I 59 (ix k) = 0 := (by simpa [iu_ap] using h412); simp [blowFm, blowCm, hb, hz, blowBm, iu_ap]; done)
                          · refine v_bipush 7 C dX11_blow_160 (by decide) ?_
                            exact v_iret C dX11_blow_162 ⟨by clear hn; simp [blowRm, *], rfl, by clear hn; simp [blowIm, blowRm, *], rfl, rfl⟩
                      · refine v_bipush 6 C dX11_blow_136 (by decide) ?_
                        exact v_iret C dX11_blow_138 ⟨by clear hn; simp [blowRm, *], rfl, by clear hn; simp [blowIm, blowRm, *], rfl, rfl⟩
                    · refine v_iconst 5 C dX11_blow_119 (by decide) ?_
                      exact v_iret C dX11_blow_120 ⟨by clear hn; simp [blowRm, *], rfl, by clear hn; simp [blowIm, blowRm, *], rfl, rfl⟩
                  · refine v_aload_n C dX11_blow_87 rfl ?_
                    refine v_getR 62 C fl_RX11_53 rfl (hs.1 47 _ rfl) (hs.2 47 22 62 rfl) dX11_blow_88 ?_
                    refine v_iload_n C dX11_blow_91 rfl ?_
                    refine v_iaload (ix k) C (hs.1 62 _ rfl) (wI_at h22 (by decide)) dX11_blow_92 ?_
                    refine v_aload_n C dX11_blow_93 rfl ?_
                    refine v_getR 57 C fl_RX11_37 rfl (hs.1 47 _ rfl) (hs.2 47 17 57 rfl) dX11_blow_94 ?_
                    refine v_iload_n C dX11_blow_97 rfl ?_
                    refine v_iaload (ix p) C (hs.1 57 _ rfl) (wI_at h13 (by decide)) dX11_blow_98 ?_
                    refine v_icmp_eq 104 C dX11_blow_99 (by decide) (fun h99 => ?_) (fun h99 => ?_)
                    · refine v_aload_n C dX11_blow_104 rfl ?_
                      refine v_getR 54 C fl_RX11_28 rfl (hs.1 47 _ rfl) (hs.2 47 14 54 rfl) dX11_blow_105 ?_
                      refine v_iload_n C dX11_blow_108 rfl ?_
                      refine v_iaload (ix p) C (hs.1 54 _ rfl) (wI_at h13 (by decide)) dX11_blow_109 ?_
                      refine v_aload_n C dX11_blow_110 rfl ?_
                      refine v_getR 59 C fl_RX11_44 rfl (hs.1 47 _ rfl) (hs.2 47 19 59 rfl) dX11_blow_111 ?_
                      refine v_iload_n C dX11_blow_114 rfl ?_
                      refine v_iaload (ix k) C (hs.1 59 _ rfl) (wI_at h22 (by decide)) dX11_blow_115 ?_
                      refine v_icmp_ge 121 C dX11_blow_116 (by decide) (fun h116 => ?_) (fun h116 => ?_)
                      · refine v_aload_n C dX11_blow_121 rfl ?_
                        refine v_getR 66 C fl_RX11_65 rfl (hs.1 47 _ rfl) (hs.2 47 26 66 rfl) dX11_blow_122 ?_
                        refine v_iload_n C dX11_blow_125 rfl ?_
                        refine v_iaload (ix g) C (hs.1 66 _ rfl) (wI_at h6 (by decide)) dX11_blow_126 ?_
                        refine v_aload_n C dX11_blow_127 rfl ?_
                        refine v_getR 60 C fl_RX11_47 rfl (hs.1 47 _ rfl) (hs.2 47 20 60 rfl) dX11_blow_128 ?_
                        refine v_iload_n C dX11_blow_131 rfl ?_
                        refine v_iaload (ix k) C (hs.1 60 _ rfl) (wI_at h22 (by decide)) dX11_blow_132 ?_
                        refine v_icmp_ge 139 C dX11_blow_133 (by decide) (fun h133 => ?_) (fun h133 => ?_)
                        · refine v_aload_n C dX11_blow_139 rfl ?_
                          refine v_callVi C (c_X11_firstBay hs) mt_X11_firstBay lk_RX11_220 rfl rfl (hs.1 47 _ rfl) rfl rfl rfl rfl rfl dX11_blow_140 ?_
                          refine v_istore C dX11_blow_143 (Nat.le_of_ble_eq_true rfl) rfl ?_
                          refine v_iload C dX11_blow_145 rfl ?_
                          refine v_if_lt 160 C dX11_blow_147 (by decide) (fun h147 => ?_) (fun h147 => ?_)
                          · refine v_bipush 7 C dX11_blow_160 (by decide) ?_
                            exact v_iret C dX11_blow_162 ⟨by clear hn; simp [blowRm, *], rfl, by clear hn; simp [blowIm, blowRm, *], rfl, rfl⟩
                          · refine v_aload_n C dX11_blow_150 rfl ?_
                            refine v_getI C fl_RX11_223 rfl (hs.1 47 _ rfl) dX11_blow_151 ?_
                            refine v_sipush 1000 C dX11_blow_154 (by decide) ?_
                            refine v_icmp_ne 163 C dX11_blow_157 (by decide) (fun h157 => ?_) (fun h157 => ?_)
                            · have hr : blowRm I g k p = 0 := by clear hn; simp [blowRm, *]
                              refine v_aload_n C dX11_blow_163 rfl ?_
                              refine v_getR 54 C fl_RX11_28 rfl (hs.1 47 _ rfl) (hs.2 47 14 54 rfl) dX11_blow_164 ?_
                              refine v_iload_n C dX11_blow_167 rfl ?_
                              refine v_dup2ir C dX11_blow_168 ?_
                              refine v_iaload (ix p) C (hs.1 54 _ rfl) (wI_at h13 (by decide)) dX11_blow_169 ?_
                              refine v_aload_n C dX11_blow_170 rfl ?_
                              refine v_getR 59 C fl_RX11_44 rfl (hs.1 47 _ rfl) (hs.2 47 19 59 rfl) dX11_blow_171 ?_
                              refine v_iload_n C dX11_blow_174 rfl ?_
                              refine v_iaload (ix k) C (hs.1 59 _ rfl) (wI_at h22 (by decide)) dX11_blow_175 ?_
                              refine v_isub C dX11_blow_176 ?_
                              refine v_iastore (ix p) C (hs.1 54 _ rfl) (wI_at h13 (by decide)) dX11_blow_177 ?_
                              refine v_aload_n C dX11_blow_178 rfl ?_
                              refine v_getR 66 C fl_RX11_65 rfl (hs.1 47 _ rfl) (hs.2 47 26 66 rfl) dX11_blow_179 ?_
                              refine v_iload_n C dX11_blow_182 rfl ?_
                              refine v_dup2ir C dX11_blow_183 ?_
                              refine v_iaload (ix g) C (hs.1 66 _ rfl) (wI_at h6 (by decide)) dX11_blow_184 ?_
                              refine v_aload_n C dX11_blow_185 rfl ?_
                              refine v_getR 60 C fl_RX11_47 rfl (hs.1 47 _ rfl) (hs.2 47 20 60 rfl) dX11_blow_186 ?_
                              refine v_iload_n C dX11_blow_189 rfl ?_
                              refine v_iaload (ix k) C (hs.1 60 _ rfl) (wI_at h22 (by decide)) dX11_blow_190 ?_
                              refine v_isub C dX11_blow_191 ?_
                              refine v_iastore (ix g) C (hs.1 66 _ rfl) (wI_at h6 (by decide)) dX11_blow_192 ?_
                              refine v_aload_n C dX11_blow_193 rfl ?_
                              refine v_getR 65 C fl_RX11_62 rfl (hs.1 47 _ rfl) (hs.2 47 25 65 rfl) dX11_blow_194 ?_
                              refine v_iload_n C dX11_blow_197 rfl ?_
                              refine v_dup2ir C dX11_blow_198 ?_
                              refine v_iaload (ix k) C (hs.1 65 _ rfl) (wI_at h22 (by decide)) dX11_blow_199 ?_
                              refine v_iconst 1 C dX11_blow_200 (by decide) ?_
                              refine v_iadd C dX11_blow_201 ?_
                              refine v_iastore (ix k) C (hs.1 65 _ rfl) (wI_at h22 (by decide)) dX11_blow_202 ?_
                              refine v_aload_n C dX11_blow_203 rfl ?_
                              refine v_getR 67 C fl_RX11_68 rfl (hs.1 47 _ rfl) (hs.2 47 28 67 rfl) dX11_blow_204 ?_
                              refine v_aload_n C dX11_blow_207 rfl ?_
                              refine v_getI C fl_RX11_223 rfl (hs.1 47 _ rfl) dX11_blow_208 ?_
                              refine v_iload_n C dX11_blow_211 rfl ?_
                              refine v_iastore n C (hs.1 67 _ rfl) (at_e (show I 47 27 = nI n from hn) hnl (by decide)) dX11_blow_212 ?_
                              refine v_aload_n C dX11_blow_213 rfl ?_
                              refine v_getR 68 C fl_RX11_71 rfl (hs.1 47 _ rfl) (hs.2 47 29 68 rfl) dX11_blow_214 ?_
                              refine v_aload_n C dX11_blow_217 rfl ?_
                              refine v_getI C fl_RX11_223 rfl (hs.1 47 _ rfl) dX11_blow_218 ?_
                              refine v_iload_n C dX11_blow_221 rfl ?_
                              refine v_iastore n C (hs.1 68 _ rfl) (at_e (show I 47 27 = nI n from hn) hnl (by decide)) dX11_blow_222 ?_
                              refine v_aload_n C dX11_blow_223 rfl ?_
                              refine v_getR 69 C fl_RX11_74 rfl (hs.1 47 _ rfl) (hs.2 47 30 69 rfl) dX11_blow_224 ?_
                              refine v_aload_n C dX11_blow_227 rfl ?_
                              refine v_getI C fl_RX11_223 rfl (hs.1 47 _ rfl) dX11_blow_228 ?_
                              refine v_aload_n C dX11_blow_231 rfl ?_
                              refine v_getR 53 C fl_RX11_25 rfl (hs.1 47 _ rfl) (hs.2 47 13 53 rfl) dX11_blow_232 ?_
                              refine v_iload_n C dX11_blow_235 rfl ?_
                              refine v_iaload (ix p) C (hs.1 53 _ rfl) (wI_at h13 (by decide)) dX11_blow_236 ?_
                              refine v_iastore n C (hs.1 69 _ rfl) (at_e (show I 47 27 = nI n from hn) hnl (by decide)) dX11_blow_237 ?_
                              refine v_aload_n C dX11_blow_238 rfl ?_
                              refine v_getR 70 C fl_RX11_77 rfl (hs.1 47 _ rfl) (hs.2 47 31 70 rfl) dX11_blow_239 ?_
                              refine v_aload_n C dX11_blow_242 rfl ?_
                              refine v_getI C fl_RX11_223 rfl (hs.1 47 _ rfl) dX11_blow_243 ?_
                              refine v_aload_n C dX11_blow_246 rfl ?_
                              refine v_getI C fl_RX11_144 rfl (hs.1 47 _ rfl) dX11_blow_247 ?_
                              refine v_iastore n C (hs.1 70 _ rfl) (at_e (show I 47 27 = nI n from hn) hnl (by decide)) dX11_blow_250 ?_
                              refine v_aload_n C dX11_blow_251 rfl ?_
                              refine v_getR 75 C fl_RX11_92 rfl (hs.1 47 _ rfl) (hs.2 47 36 75 rfl) dX11_blow_252 ?_
                              refine v_aload_n C dX11_blow_255 rfl ?_
                              refine v_getI C fl_RX11_223 rfl (hs.1 47 _ rfl) dX11_blow_256 ?_
                              refine v_aload_n C dX11_blow_259 rfl ?_
                              refine v_getR 59 C fl_RX11_44 rfl (hs.1 47 _ rfl) (hs.2 47 19 59 rfl) dX11_blow_260 ?_
                              refine v_iload_n C dX11_blow_263 rfl ?_
                              refine v_iaload (ix k) C (hs.1 59 _ rfl) (wI_at h22 (by decide)) dX11_blow_264 ?_
                              refine v_iastore n C (hs.1 75 _ rfl) (at_e (show I 47 27 = nI n from hn) hnl (by decide)) dX11_blow_265 ?_
                              refine v_aload_n C dX11_blow_266 rfl ?_
                              refine v_getR 74 C fl_RX11_89 rfl (hs.1 47 _ rfl) (hs.2 47 35 74 rfl) dX11_blow_267 ?_
                              refine v_aload_n C dX11_blow_270 rfl ?_
                              refine v_getI C fl_RX11_223 rfl (hs.1 47 _ rfl) dX11_blow_271 ?_
                              refine v_aload_n C dX11_blow_274 rfl ?_
                              refine v_getR 64 C fl_RX11_59 rfl (hs.1 47 _ rfl) (hs.2 47 24 64 rfl) dX11_blow_275 ?_
                              refine v_iload_n C dX11_blow_278 rfl ?_
                              refine v_iaload (ix k) C (hs.1 64 _ rfl) (wI_at h22 (by decide)) dX11_blow_279 ?_
                              refine v_iastore n C (hs.1 74 _ rfl) (at_e (show I 47 27 = nI n from hn) hnl (by decide)) dX11_blow_280 ?_
                              refine v_aload_n C dX11_blow_281 rfl ?_
                              refine v_getR 73 C fl_RX11_86 rfl (hs.1 47 _ rfl) (hs.2 47 34 73 rfl) dX11_blow_282 ?_
                              refine v_aload_n C dX11_blow_285 rfl ?_
                              refine v_getI C fl_RX11_223 rfl (hs.1 47 _ rfl) dX11_blow_286 ?_
                              refine v_iconst 0 C dX11_blow_289 (by decide) ?_
                              refine v_iastore n C (hs.1 73 _ rfl) (at_e (show I 47 27 = nI n from hn) hnl (by decide)) dX11_blow_290 ?_
                              refine v_aload_n C dX11_blow_291 rfl ?_
                              refine v_getR 63 C fl_RX11_56 rfl (hs.1 47 _ rfl) (hs.2 47 23 63 rfl) dX11_blow_292 ?_
                              refine v_iload_n C dX11_blow_295 rfl ?_
                              refine v_iaload (ix k) C (hs.1 63 _ rfl) (wI_at h22 (by decide)) dX11_blow_296 ?_
                              refine v_if_le 320 C dX11_blow_297 (by decide) (fun h297 => ?_) (fun h297 => ?_)
                              · have hb : brk (I 63 (ix k)) (I 65 (ix k) + 1) = 0 := by first | exact if_pos (show I 63 (ix k) ≤ 0 from h297) | (have b1 : ¬ I 63 (ix k) ≤ 0 := h297; have b2 : ¬ I 65 (ix k) + 1 - (I 65 (ix k) + 1) / I 63 (ix k) * I 63 (ix k) = 0 := (by simpa [iu_ap] using h313); simp [brk, b1, b2])
                                refine v_iconst 0 C dX11_blow_320 (by decide) ?_
                                refine v_istore C dX11_blow_321 (Nat.le_of_ble_eq_true rfl) rfl ?_
                                refine v_aload_n C dX11_blow_323 rfl ?_
                                refine v_getR 71 C fl_RX11_80 rfl (hs.1 47 _ rfl) (hs.2 47 32 71 rfl) dX11_blow_324 ?_
                                refine v_aload_n C dX11_blow_327 rfl ?_
                                refine v_getI C fl_RX11_223 rfl (hs.1 47 _ rfl) dX11_blow_328 ?_
                                refine v_iload C dX11_blow_331 rfl ?_
                                refine v_if_eq 340 C dX11_blow_333 (by decide) (fun _ => ?_) (fun h333 => absurd h333 (by decide))
                                refine v_iconst 0 C dX11_blow_340 (by decide) ?_
                                refine v_iastore n C (hs.1 71 _ rfl) (at_e (show I 47 27 = nI n from hn) hnl (by decide)) dX11_blow_341 ?_
                                refine v_aload_n C dX11_blow_342 rfl ?_
                                refine v_getR 72 C fl_RX11_83 rfl (hs.1 47 _ rfl) (hs.2 47 33 72 rfl) dX11_blow_343 ?_
                                refine v_aload_n C dX11_blow_346 rfl ?_
                                refine v_getI C fl_RX11_223 rfl (hs.1 47 _ rfl) dX11_blow_347 ?_
                                refine v_iload C dX11_blow_350 rfl ?_
                                refine v_if_eq 359 C dX11_blow_352 (by decide) (fun _ => ?_) (fun h352 => absurd h352 (by decide))
                                refine v_iload C dX11_blow_359 rfl ?_
                                refine v_iastore n C (hs.1 72 _ rfl) (at_e (show I 47 27 = nI n from hn) hnl (by decide)) dX11_blow_361 ?_
                                refine v_iload C dX11_blow_362 rfl ?_
                                refine v_if_eq 385 C dX11_blow_364 (by decide) (fun _ => ?_) (fun h364 => absurd h364 (by decide))
                                refine v_aload_n C dX11_blow_385 rfl ?_
                                refine v_getR 76 C fl_RX11_95 rfl (hs.1 47 _ rfl) (hs.2 47 37 76 rfl) dX11_blow_386 ?_
                                refine v_iload C dX11_blow_389 rfl ?_
                                refine v_dup2ir C dX11_blow_391 ?_
                                refine v_iaload (ix (fbRm (I 76 0) (I 76 1) (I 76 2))) C (hs.1 76 _ rfl) (fbRm_at h147) dX11_blow_392 ?_
                                refine v_iconst 1 C dX11_blow_393 (by decide) ?_
                                refine v_iadd C dX11_blow_394 ?_
                                refine v_iastore (ix (fbRm (I 76 0) (I 76 1) (I 76 2))) C (hs.1 76 _ rfl) (fbRm_at h147) dX11_blow_395 ?_
                                refine v_aload_n C dX11_blow_396 rfl ?_
                                refine v_dupr C dX11_blow_397 ?_
                                refine v_getI C fl_RX11_223 rfl (hs.1 47 _ rfl) dX11_blow_398 ?_
                                refine v_iconst 1 C dX11_blow_401 (by decide) ?_
                                refine v_iadd C dX11_blow_402 ?_
                                refine v_putI C fl_RX11_223 rfl (hs.1 47 _ rfl) dX11_blow_403 ?_
                                refine v_aload_n C dX11_blow_406 rfl ?_
                                refine v_getR 54 C fl_RX11_28 rfl (hs.1 47 _ rfl) (hs.2 47 14 54 rfl) dX11_blow_407 ?_
                                refine v_iload_n C dX11_blow_410 rfl ?_
                                refine v_iaload (ix p) C (hs.1 54 _ rfl) (wI_at h13 (by decide)) dX11_blow_411 ?_
                                refine v_if_ne 422 C dX11_blow_412 (by decide) (fun h412 => ?_) (fun h412 => ?_)
                                · refine v_iconst 0 C dX11_blow_422 (by decide) ?_
                                  refine v_iret C dX11_blow_423 ⟨by rw [hr], rfl, ?_, rfl, rfl⟩
                                  rw [blowIm, if_pos hr]
                                  first | (have hz : I 54 (ix p) - I 59 (ix k) = 0 := (by simpa [iu_ap] using h412); simp [blowFm, blowCm, hb, hz, blowBm, iu_ap]; done) | (have hz : ¬ I 54 (ix p) - I 59 (ix k) = 0 := (by simpa [iu_ap] using h412); simp [blowFm, blowCm, hb, hz, blowBm, iu_ap]; done)
                                · refine v_aload_n C dX11_blow_415 rfl ?_
                                  refine v_getR 53 C fl_RX11_25 rfl (hs.1 47 _ rfl) (hs.2 47 13 53 rfl) dX11_blow_416 ?_
                                  refine v_iload_n C dX11_blow_419 rfl ?_
                                  refine v_iconst (-1) C dX11_blow_420 (by decide) ?_
                                  refine v_iastore (ix p) C (hs.1 53 _ rfl) (wI_at h13 (by decide)) dX11_blow_421 ?_
                                  refine v_iconst 0 C dX11_blow_422 (by decide) ?_
                                  refine v_iret C dX11_blow_423 ⟨by rw [hr], rfl, ?_, rfl, rfl⟩
                                  rw [blowIm, if_pos hr]
                                  first | (have hz : I 54 (ix p) - I 59 (ix k) = 0 := (by simpa [iu_ap] using h412); simp [blowFm, blowCm, hb, hz, blowBm, iu_ap]; done) | (have hz : ¬ I 54 (ix p) - I 59 (ix k) = 0 := (by simpa [iu_ap] using h412); simp [blowFm, blowCm, hb, hz, blowBm, iu_ap]; done)
                              · refine v_aload_n C dX11_blow_300 rfl ?_
                                refine v_getR 65 C fl_RX11_62 rfl (hs.1 47 _ rfl) (hs.2 47 25 65 rfl) dX11_blow_301 ?_
                                refine v_iload_n C dX11_blow_304 rfl ?_
                                refine v_iaload (ix k) C (hs.1 65 _ rfl) (wI_at h22 (by decide)) dX11_blow_305 ?_
                                refine v_aload_n C dX11_blow_306 rfl ?_
                                refine v_getR 63 C fl_RX11_56 rfl (hs.1 47 _ rfl) (hs.2 47 23 63 rfl) dX11_blow_307 ?_
                                refine v_iload_n C dX11_blow_310 rfl ?_
                                refine v_iaload (ix k) C (hs.1 63 _ rfl) (wI_at h22 (by decide)) dX11_blow_311 ?_
                                refine v_irem C dX11_blow_312 (ne_of_nle h297) ?_
                                refine v_if_ne 320 C dX11_blow_313 (by decide) (fun h313 => ?_) (fun h313 => ?_)
                                · have hb : brk (I 63 (ix k)) (I 65 (ix k) + 1) = 0 := by first | exact if_pos (show I 63 (ix k) ≤ 0 from h297) | (have b1 : ¬ I 63 (ix k) ≤ 0 := h297; have b2 : ¬ I 65 (ix k) + 1 - (I 65 (ix k) + 1) / I 63 (ix k) * I 63 (ix k) = 0 := (by simpa [iu_ap] using h313); simp [brk, b1, b2])
                                  refine v_iconst 0 C dX11_blow_320 (by decide) ?_
                                  refine v_istore C dX11_blow_321 (Nat.le_of_ble_eq_true rfl) rfl ?_
                                  refine v_aload_n C dX11_blow_323 rfl ?_
                                  refine v_getR 71 C fl_RX11_80 rfl (hs.1 47 _ rfl) (hs.2 47 32 71 rfl) dX11_blow_324 ?_
                                  refine v_aload_n C dX11_blow_327 rfl ?_
                                  refine v_getI C fl_RX11_223 rfl (hs.1 47 _ rfl) dX11_blow_328 ?_
                                  refine v_iload C dX11_blow_331 rfl ?_
                                  refine v_if_eq 340 C dX11_blow_333 (by decide) (fun _ => ?_) (fun h333 => absurd h333 (by decide))
                                  refine v_iconst 0 C dX11_blow_340 (by decide) ?_
                                  refine v_iastore n C (hs.1 71 _ rfl) (at_e (show I 47 27 = nI n from hn) hnl (by decide)) dX11_blow_341 ?_
                                  refine v_aload_n C dX11_blow_342 rfl ?_
                                  refine v_getR 72 C fl_RX11_83 rfl (hs.1 47 _ rfl) (hs.2 47 33 72 rfl) dX11_blow_343 ?_
                                  refine v_aload_n C dX11_blow_346 rfl ?_
                                  refine v_getI C fl_RX11_223 rfl (hs.1 47 _ rfl) dX11_blow_347 ?_
                                  refine v_iload C dX11_blow_350 rfl ?_
                                  refine v_if_eq 359 C dX11_blow_352 (by decide) (fun _ => ?_) (fun h352 => absurd h352 (by decide))
                                  refine v_iload C dX11_blow_359 rfl ?_
                                  refine v_iastore n C (hs.1 72 _ rfl) (at_e (show I 47 27 = nI n from hn) hnl (by decide)) dX11_blow_361 ?_
                                  refine v_iload C dX11_blow_362 rfl ?_
                                  refine v_if_eq 385 C dX11_blow_364 (by decide) (fun _ => ?_) (fun h364 => absurd h364 (by decide))
                                  refine v_aload_n C dX11_blow_385 rfl ?_
                                  refine v_getR 76 C fl_RX11_95 rfl (hs.1 47 _ rfl) (hs.2 47 37 76 rfl) dX11_blow_386 ?_
                                  refine v_iload C dX11_blow_389 rfl ?_
                                  refine v_dup2ir C dX11_blow_391 ?_
                                  refine v_iaload (ix (fbRm (I 76 0) (I 76 1) (I 76 2))) C (hs.1 76 _ rfl) (fbRm_at h147) dX11_blow_392 ?_
                                  refine v_iconst 1 C dX11_blow_393 (by decide) ?_
                                  refine v_iadd C dX11_blow_394 ?_
                                  refine v_iastore (ix (fbRm (I 76 0) (I 76 1) (I 76 2))) C (hs.1 76 _ rfl) (fbRm_at h147) dX11_blow_395 ?_
                                  refine v_aload_n C dX11_blow_396 rfl ?_
                                  refine v_dupr C dX11_blow_397 ?_
                                  refine v_getI C fl_RX11_223 rfl (hs.1 47 _ rfl) dX11_blow_398 ?_
                                  refine v_iconst 1 C dX11_blow_401 (by decide) ?_
                                  refine v_iadd C dX11_blow_402 ?_
                                  refine v_putI C fl_RX11_223 rfl (hs.1 47 _ rfl) dX11_blow_403 ?_
                                  refine v_aload_n C dX11_blow_406 rfl ?_
                                  refine v_getR 54 C fl_RX11_28 rfl (hs.1 47 _ rfl) (hs.2 47 14 54 rfl) dX11_blow_407 ?_
                                  refine v_iload_n C dX11_blow_410 rfl ?_
                                  refine v_iaload (ix p) C (hs.1 54 _ rfl) (wI_at h13 (by decide)) dX11_blow_411 ?_
                                  refine v_if_ne 422 C dX11_blow_412 (by decide) (fun h412 => ?_) (fun h412 => ?_)
                                  · refine v_iconst 0 C dX11_blow_422 (by decide) ?_
                                    refine v_iret C dX11_blow_423 ⟨by rw [hr], rfl, ?_, rfl, rfl⟩
                                    rw [blowIm, if_pos hr]
                                    first | (have hz : I 54 (ix p) - I 59 (ix k) = 0 := (by simpa [iu_ap] using h412); simp [blowFm, blowCm, hb, hz, blowBm, iu_ap]; done) | (have hz : ¬ I 54 (ix p) - I 59 (ix k) = 0 := (by simpa [iu_ap] using h412); simp [blowFm, blowCm, hb, hz, blowBm, iu_ap]; done)
                                  · refine v_aload_n C dX11_blow_415 rfl ?_
                                    refine v_getR 53 C fl_RX11_25 rfl (hs.1 47 _ rfl) (hs.2 47 13 53 rfl) dX11_blow_416 ?_
                                    refine v_iload_n C dX11_blow_419 rfl ?_
                                    refine v_iconst (-1) C dX11_blow_420 (by decide) ?_
                                    refine v_iastore (ix p) C (hs.1 53 _ rfl) (wI_at h13 (by decide)) dX11_blow_421 ?_
                                    refine v_iconst 0 C dX11_blow_422 (by decide) ?_
                                    refine v_iret C dX11_blow_423 ⟨by rw [hr], rfl, ?_, rfl, rfl⟩
                                    rw [blowIm, if_pos hr]
                                    first | (have hz : I 54 (ix p) - I 59 (ix k) = 0 := (by simpa [iu_ap] using h412); simp [blowFm, blowCm, hb, hz, blowBm, iu_ap]; done) | (have hz : ¬ I 54 (ix p) - I 59 (ix k) = 0 := (by simpa [iu_ap] using h412); simp [blowFm, blowCm, hb, hz, blowBm, iu_ap]; done)
                                · have hb : ¬ brk (I 63 (ix k)) (I 65 (ix k) + 1) = 0 := by have b1 : ¬ I 63 (ix k) ≤ 0 := h297; have b2 : I 65 (ix k) + 1 - (I 65 (ix k) + 1) / I 63 (ix k) * I 63 (ix k) = 0 := (by simpa [iu_ap] using h313); simp [brk, b1, b2]
                                  refine v_iconst 1 C dX11_blow_316 (by decide) ?_
                                  refine v_goto 321 C dX11_blow_317 (by decide) ?_
                                  refine v_istore C dX11_blow_321 (Nat.le_of_ble_eq_true rfl) rfl ?_
                                  refine v_aload_n C dX11_blow_323 rfl ?_
                                  refine v_getR 71 C fl_RX11_80 rfl (hs.1 47 _ rfl) (hs.2 47 32 71 rfl) dX11_blow_324 ?_
                                  refine v_aload_n C dX11_blow_327 rfl ?_
                                  refine v_getI C fl_RX11_223 rfl (hs.1 47 _ rfl) dX11_blow_328 ?_
                                  refine v_iload C dX11_blow_331 rfl ?_
                                  refine v_if_eq 340 C dX11_blow_333 (by decide) (fun h333 => absurd h333 (by decide)) (fun _ => ?_)
                                  refine v_iconst 2 C dX11_blow_336 (by decide) ?_
                                  refine v_goto 341 C dX11_blow_337 (by decide) ?_
                                  refine v_iastore n C (hs.1 71 _ rfl) (at_e (show I 47 27 = nI n from hn) hnl (by decide)) dX11_blow_341 ?_
                                  refine v_aload_n C dX11_blow_342 rfl ?_
                                  refine v_getR 72 C fl_RX11_83 rfl (hs.1 47 _ rfl) (hs.2 47 33 72 rfl) dX11_blow_343 ?_
                                  refine v_aload_n C dX11_blow_346 rfl ?_
                                  refine v_getI C fl_RX11_223 rfl (hs.1 47 _ rfl) dX11_blow_347 ?_
                                  refine v_iload C dX11_blow_350 rfl ?_
                                  refine v_if_eq 359 C dX11_blow_352 (by decide) (fun h352 => absurd h352 (by decide)) (fun _ => ?_)
                                  refine v_iconst (-1) C dX11_blow_355 (by decide) ?_
                                  refine v_goto 361 C dX11_blow_356 (by decide) ?_
                                  refine v_iastore n C (hs.1 72 _ rfl) (at_e (show I 47 27 = nI n from hn) hnl (by decide)) dX11_blow_361 ?_
                                  refine v_iload C dX11_blow_362 rfl ?_
                                  refine v_if_eq 385 C dX11_blow_364 (by decide) (fun h364 => absurd h364 (by decide)) (fun _ => ?_)
                                  refine v_aload_n C dX11_blow_367 rfl ?_
                                  refine v_dupr C dX11_blow_368 ?_
                                  refine v_getI C fl_RX11_213 rfl (hs.1 47 _ rfl) dX11_blow_369 ?_
                                  refine v_aload_n C dX11_blow_372 rfl ?_
                                  refine v_getR 59 C fl_RX11_44 rfl (hs.1 47 _ rfl) (hs.2 47 19 59 rfl) dX11_blow_373 ?_
                                  refine v_iload_n C dX11_blow_376 rfl ?_
                                  refine v_iaload (ix k) C (hs.1 59 _ rfl) (wI_at h22 (by decide)) dX11_blow_377 ?_
                                  refine v_iadd C dX11_blow_378 ?_
                                  refine v_putI C fl_RX11_213 rfl (hs.1 47 _ rfl) dX11_blow_379 ?_
                                  refine v_goto 396 C dX11_blow_382 (by decide) ?_
                                  refine v_aload_n C dX11_blow_396 rfl ?_
                                  refine v_dupr C dX11_blow_397 ?_
                                  refine v_getI C fl_RX11_223 rfl (hs.1 47 _ rfl) dX11_blow_398 ?_
                                  refine v_iconst 1 C dX11_blow_401 (by decide) ?_
                                  refine v_iadd C dX11_blow_402 ?_
                                  refine v_putI C fl_RX11_223 rfl (hs.1 47 _ rfl) dX11_blow_403 ?_
                                  refine v_aload_n C dX11_blow_406 rfl ?_
                                  refine v_getR 54 C fl_RX11_28 rfl (hs.1 47 _ rfl) (hs.2 47 14 54 rfl) dX11_blow_407 ?_
                                  refine v_iload_n C dX11_blow_410 rfl ?_
                                  refine v_iaload (ix p) C (hs.1 54 _ rfl) (wI_at h13 (by decide)) dX11_blow_411 ?_
                                  refine v_if_ne 422 C dX11_blow_412 (by decide) (fun h412 => ?_) (fun h412 => ?_)
                                  · refine v_iconst 0 C dX11_blow_422 (by decide) ?_
                                    refine v_iret C dX11_blow_423 ⟨by rw [hr], rfl, ?_, rfl, rfl⟩
                                    rw [blowIm, if_pos hr]
                                    first | (have hz : I 54 (ix p) - I 59 (ix k) = 0 := (by simpa [iu_ap] using h412); simp [blowFm, blowCm, hb, hz, blowBm, iu_ap]; done) | (have hz : ¬ I 54 (ix p) - I 59 (ix k) = 0 := (by simpa [iu_ap] using h412); simp [blowFm, blowCm, hb, hz, blowBm, iu_ap]; done)
                                  · refine v_aload_n C dX11_blow_415 rfl ?_
                                    refine v_getR 53 C fl_RX11_25 rfl (hs.1 47 _ rfl) (hs.2 47 13 53 rfl) dX11_blow_416 ?_
                                    refine v_iload_n C dX11_blow_419 rfl ?_
                                    refine v_iconst (-1) C dX11_blow_420 (by decide) ?_
                                    refine v_iastore (ix p) C (hs.1 53 _ rfl) (wI_at h13 (by decide)) dX11_blow_421 ?_
                                    refine v_iconst 0 C dX11_blow_422 (by decide) ?_
                                    refine v_iret C dX11_blow_423 ⟨by rw [hr], rfl, ?_, rfl, rfl⟩
                                    rw [blowIm, if_pos hr]
                                    first | (have hz : I 54 (ix p) - I 59 (ix k) = 0 := (by simpa [iu_ap] using h412); simp [blowFm, blowCm, hb, hz, blowBm, iu_ap]; done) | (have hz : ¬ I 54 (ix p) - I 59 (ix k) = 0 := (by simpa [iu_ap] using h412); simp [blowFm, blowCm, hb, hz, blowBm, iu_ap]; done)
                            · refine v_bipush 7 C dX11_blow_160 (by decide) ?_
                              exact v_iret C dX11_blow_162 ⟨by clear hn; simp [blowRm, *], rfl, by clear hn; simp [blowIm, blowRm, *], rfl, rfl⟩
                        · refine v_bipush 6 C dX11_blow_136 (by decide) ?_
                          exact v_iret C dX11_blow_138 ⟨by clear hn; simp [blowRm, *], rfl, by clear hn; simp [blowIm, blowRm, *], rfl, rfl⟩
                      · refine v_iconst 5 C dX11_blow_119 (by decide) ?_
                        exact v_iret C dX11_blow_120 ⟨by clear hn; simp [blowRm, *], rfl, by clear hn; simp [blowIm, blowRm, *], rfl, rfl⟩
                    · refine v_iconst 4 C dX11_blow_102 (by decide) ?_
                      exact v_iret C dX11_blow_103 ⟨by clear hn; simp [blowRm, *], rfl, by clear hn; simp [blowIm, blowRm, *], rfl, rfl⟩
                · refine v_iconst 3 C dX11_blow_75 (by decide) ?_
                  exact v_iret C dX11_blow_76 ⟨by clear hn; simp [blowRm, *], rfl, by clear hn; simp [blowIm, blowRm, *], rfl, rfl⟩
              · refine v_iconst 2 C dX11_blow_63 (by decide) ?_
                exact v_iret C dX11_blow_64 ⟨by clear hn; simp [blowRm, *], rfl, by clear hn; simp [blowIm, blowRm, *], rfl, rfl⟩
          · refine v_iconst 1 C dX11_blow_44 (by decide) ?_
            exact v_iret C dX11_blow_45 ⟨by clear hn; simp [blowRm, *], rfl, by clear hn; simp [blowIm, blowRm, *], rfl, rfl⟩

set_option maxHeartbeats 4000000 in
set_option maxRecDepth 100000 in
theorem c_X11_open {lnc : Launch} {E : En} {sh : List Sh} {I : IM} {J : JM} {R : RM} {n : Nat} {y : Int32} (hs : St sh R) (hn : I 47 27 = nI n) (hl : n ≤ 1000) : Ct lnc E yX11_open cX11_open 4 (some .int) 1 22 [.ref 47, .int y] sh I J R 0 0 (m_ret (some (.int (openRm I n y))) sh (openIm I n y) J R) := by
  refine Ct.of (lv := [some (.ref 47), some (.int y), none, none]) (by decide) (Nat.le_of_ble_eq_true rfl) rfl (fun X hX C => ?_)
  refine v_iload_n C dX11_open_0 rfl ?_
  refine v_iconst 0 C dX11_open_1 (by decide) ?_
  refine v_iconst 2 C dX11_open_2 (by decide) ?_
  refine v_callSi C c_X11_in mt_X11_in lk_RX11_140 rfl rfl rfl rfl rfl dX11_open_3 ?_
  refine v_if_ne 11 C dX11_open_6 (by decide) (fun h6 => ?_) (fun h6 => ?_)
  · refine v_iconst 0 C dX11_open_11 (by decide) ?_
    refine v_istore_n C dX11_open_12 (Nat.le_of_ble_eq_true rfl) rfl ?_
    refine v_iconst 0 C dX11_open_13 (by decide) ?_
    refine v_istore_n C dX11_open_14 (Nat.le_of_ble_eq_true rfl) rfl ?_
    have loop : ∀ (fuel : Nat) (m q : Nat) (Ii : IM) (c : Int32), m < fuel → q + m = n → Ii 47 27 = nI n → opM y m q Ii c = opM y n 0 I 0 → V E X (m_Z E X (m_ret (some (.int (openRm I n y))) sh (openIm I n y) J R) 0 0) 0 0 sh Ii J R 15 [some (.ref 47), some (.int y), some (.int c), some (.int (nI q))] [] := by
      intro fuel
      induction fuel with
      | zero => intro m q Ii c hfuel; exact absurd hfuel (Nat.not_lt_zero _)
      | succ fuel ih =>
        intro m q Ii c hfuel hk hi hf
        refine v_iload_n C dX11_open_15 rfl ?_
        refine v_aload_n C dX11_open_16 rfl ?_
        refine v_getI C fl_RX11_223 rfl (hs.1 47 _ rfl) dX11_open_17 ?_
        rw [hi]
        refine v_icmp_ge 76 C dX11_open_20 (by decide) (fun h20 => ?_) (fun h20 => ?_)
        · have hqn := nI_le_of h20 (by omega) (by omega)
          obtain rfl : m = 0 := by omega
          refine v_aload_n C dX11_open_76 rfl ?_
          refine v_getR 76 C fl_RX11_95 rfl (hs.1 47 _ rfl) (hs.2 47 37 76 rfl) dX11_open_77 ?_
          refine v_iload_n C dX11_open_80 rfl ?_
          refine v_iconst 0 C dX11_open_81 (by decide) ?_
          refine v_iastore (ix y) C (hs.1 76 _ rfl) (wI_at h6 (by decide)) dX11_open_82 ?_
          refine v_iload_n C dX11_open_83 rfl ?_
          exact v_iret C dX11_open_84 ⟨by rw [openRm, if_neg h6, ← hf]; rfl, rfl, by rw [openIm, if_neg h6, ← hf]; rfl, rfl, rfl⟩
        · have hqn := nI_lt_of h20 (by omega)
          obtain ⟨m, rfl⟩ : ∃ m2, m = m2 + 1 := ⟨m - 1, by omega⟩
          refine v_aload_n C dX11_open_23 rfl ?_
          refine v_getR 71 C fl_RX11_80 rfl (hs.1 47 _ rfl) (hs.2 47 32 71 rfl) dX11_open_24 ?_
          refine v_iload_n C dX11_open_27 rfl ?_
          refine v_iaload q C (hs.1 71 _ rfl) (at_nI (by omega) (by decide)) dX11_open_28 ?_
          refine v_if_ne 70 C dX11_open_29 (by decide) (fun h29 => ?_) (fun h29 => ?_)
          · refine v_iinc (nI (q + 1)) C dX11_open_70 rfl (nI_1 q) (Nat.le_of_ble_eq_true rfl) rfl ?_
            refine v_goto 15 C dX11_open_73 (by decide) ?_
            exact ih m (q + 1) _ _ (lt_fuel hfuel) (by omega) (by simpa [iu_ap] using hi) (by rw [← hf]; simp [opM, iu_ap, *])
          · refine v_aload_n C dX11_open_32 rfl ?_
            refine v_getR 72 C fl_RX11_83 rfl (hs.1 47 _ rfl) (hs.2 47 33 72 rfl) dX11_open_33 ?_
            refine v_iload_n C dX11_open_36 rfl ?_
            refine v_iaload q C (hs.1 72 _ rfl) (at_nI (by omega) (by decide)) dX11_open_37 ?_
            refine v_iload_n C dX11_open_38 rfl ?_
            refine v_icmp_eq 45 C dX11_open_39 (by decide) (fun h39 => ?_) (fun h39 => ?_)
            · refine v_aload_n C dX11_open_45 rfl ?_
              refine v_getR 71 C fl_RX11_80 rfl (hs.1 47 _ rfl) (hs.2 47 32 71 rfl) dX11_open_46 ?_
              refine v_iload_n C dX11_open_49 rfl ?_
              refine v_iconst 3 C dX11_open_50 (by decide) ?_
              refine v_iastore q C (hs.1 71 _ rfl) (at_nI (by omega) (by decide)) dX11_open_51 ?_
              refine v_aload_n C dX11_open_52 rfl ?_
              refine v_dupr C dX11_open_53 ?_
              refine v_getI C fl_RX11_213 rfl (hs.1 47 _ rfl) dX11_open_54 ?_
              refine v_aload_n C dX11_open_57 rfl ?_
              refine v_getR 75 C fl_RX11_92 rfl (hs.1 47 _ rfl) (hs.2 47 36 75 rfl) dX11_open_58 ?_
              refine v_iload_n C dX11_open_61 rfl ?_
              refine v_iaload q C (hs.1 75 _ rfl) (at_nI (by omega) (by decide)) dX11_open_62 ?_
              refine v_iadd C dX11_open_63 ?_
              refine v_putI C fl_RX11_213 rfl (hs.1 47 _ rfl) dX11_open_64 ?_
              refine v_iinc (c + 1) C dX11_open_67 rfl rfl (Nat.le_of_ble_eq_true rfl) rfl ?_
              refine v_iinc (nI (q + 1)) C dX11_open_70 rfl (nI_1 q) (Nat.le_of_ble_eq_true rfl) rfl ?_
              refine v_goto 15 C dX11_open_73 (by decide) ?_
              exact ih m (q + 1) _ _ (lt_fuel hfuel) (by omega) (by simpa [iu_ap] using hi) (by rw [← hf]; simp [opM, iu_ap, *])
            · refine v_goto 70 C dX11_open_42 (by decide) ?_
              refine v_iinc (nI (q + 1)) C dX11_open_70 rfl (nI_1 q) (Nat.le_of_ble_eq_true rfl) rfl ?_
              refine v_goto 15 C dX11_open_73 (by decide) ?_
              exact ih m (q + 1) _ _ (lt_fuel hfuel) (by omega) (by simpa [iu_ap] using hi) (by rw [← hf]; simp [opM, iu_ap, *])
    exact loop (n + 1) n 0 I 0 (Nat.lt_succ_self n) (by omega) hn rfl
  · refine v_iconst (-1) C dX11_open_9 (by decide) ?_
    exact v_iret C dX11_open_10 ⟨by simp [openRm, *], rfl, by simp [openIm, *], rfl, rfl⟩
