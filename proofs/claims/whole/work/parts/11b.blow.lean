set_option maxHeartbeats 4000000 in
set_option maxRecDepth 100000 in
theorem c_X10_blowPiece {lnc : Launch} {E : En} {sh : List Sh} {I : IM} {J : JM} {R : RM} {kk gj yj p n c : Nat} {g k y : Int32} (hs : St sh R) (hB : Blank sh I J R) (hg : At g 4 gj) (hk : At k 5 kk) (hp : sh[p]? = some (.inl 7)) (hpl : 18 ≤ p ∧ p < 24) (hy : At y 3 yj) (hn : I 0 14 = nI n) (hnl : n < 1000) (hc : I (31 + 2 * yj) 1 = nI c) (hcl : c < 20) : Ct lnc E yX10_blowPiece cX10_blowPiece 7 none 2 45 [.ref 0, .int g, .int k, .ref p, .int y] sh I J R 1 9 (blowPQ sh I J R p (25 + kk) gj (31 + 2 * yj) (32 + 2 * yj) n c k g y) := by
  refine Ct.of (lv := [some (.ref 0), some (.int g), some (.int k), some (.ref p), some (.int y), none, none]) (by decide) (Nat.le_of_ble_eq_true rfl) rfl (fun X hX C => ?_)
  have hkk := hk.lt
  have hyj := hy.lt
  refine v_aload_n C dX10_blowPiece_0 rfl ?_
  refine v_getR 24 C fl_RX10_46 rfl (hs.1 0 _ rfl) (hs.2 0 5 24 rfl) dX10_blowPiece_1 ?_
  refine v_iload_n C dX10_blowPiece_4 rfl ?_
  refine v_aaload kk C (hs.1 24 _ rfl) (cn := RX4) ⟨rfl, by decide, by decide⟩ hk (hs.kind hkk).2 dX10_blowPiece_5 ?_
  refine v_astore C dX10_blowPiece_6 (Nat.le_of_ble_eq_true rfl) rfl ?_
  refine v_new (ci := 6) C rfl cl_RX10_68 ins_RX6 ini_RX6 (Nat.le_of_ble_eq_true rfl) (Nat.le_of_ble_eq_true rfl) dX10_blowPiece_8 ?_
  refine v_eqI hB.i ?_
  refine v_eqR hB.r ?_
  obtain ⟨q, hq⟩ : ∃ q, q = sh.length := ⟨_, rfl⟩
  obtain ⟨s2, hs2e⟩ : ∃ s2, s2 = sh ++ [Sum.inl 6] := ⟨_, rfl⟩
  rw [← hq]
  refine v_eqS hs2e.symm ?_
  have ht : St s2 R := by rw [hs2e]; exact hs.app _
  have hp2 : s2[p]? = some (.inl 7) := by rw [hs2e]; exact sh_app hp
  have hsq : s2[q]? = some (.inl 6) := by rw [hs2e, hq]; simp
  have hq91 := hs.len
  have hpq : p < q := by rw [hq]; exact sh_lt hp
  refine v_dupr C dX10_blowPiece_11 ?_
  refine v_iload_n C dX10_blowPiece_12 rfl ?_
  refine v_iload_n C dX10_blowPiece_13 rfl ?_
  refine v_aload_n C dX10_blowPiece_14 rfl ?_
  refine v_getI C fl_RX10_277 rfl hp2 dX10_blowPiece_15 ?_
  refine v_aload_n C dX10_blowPiece_18 rfl ?_
  refine v_getI C fl_RX10_211 rfl (ht.1 0 _ rfl) dX10_blowPiece_19 ?_
  refine v_aload C dX10_blowPiece_22 rfl ?_
  refine v_callIv C (c_X6_init hsq (ht.kind hkk).1 (by omega)) mt_X6_init lk_RX10_280 rfl rfl rfl rfl rfl dX10_blowPiece_24 ?_
  refine v_astore C dX10_blowPiece_27 (Nat.le_of_ble_eq_true rfl) rfl ?_
  refine v_aload_n C dX10_blowPiece_29 rfl ?_
  refine v_getR 37 C fl_RX10_58 rfl (ht.1 0 _ rfl) (ht.2 0 7 37 rfl) dX10_blowPiece_30 ?_
  refine v_iload_n C dX10_blowPiece_33 rfl ?_
  refine v_dup2ir C dX10_blowPiece_34 ?_
  refine v_iaload gj C (ht.1 37 _ rfl) hg dX10_blowPiece_35 ?_
  refine v_aload C dX10_blowPiece_36 rfl ?_
  refine v_getI C fl_RX10_182 rfl (ht.kind hkk).1 dX10_blowPiece_38 ?_
  refine v_isub C dX10_blowPiece_41 ?_
  refine v_iastore gj C (ht.1 37 _ rfl) hg dX10_blowPiece_42 ?_
  refine v_aload_n C dX10_blowPiece_43 rfl ?_
  refine v_aload C dX10_blowPiece_44 rfl ?_
  refine v_getI C fl_RX10_179 rfl (ht.kind hkk).1 dX10_blowPiece_46 ?_
  refine v_callVv C (c_X7_takeGlass hp2) mt_X7_takeGlass lk_RX10_283 rfl rfl hp2 rfl rfl rfl rfl rfl dX10_blowPiece_49 ?_
  refine v_aload C dX10_blowPiece_52 rfl ?_
  refine v_dupr C dX10_blowPiece_54 ?_
  refine v_getI C fl_RX10_250 rfl (ht.kind hkk).1 dX10_blowPiece_55 ?_
  refine v_iconst 1 C dX10_blowPiece_58 (by decide) ?_
  refine v_iadd C dX10_blowPiece_59 ?_
  refine v_putI C fl_RX10_250 rfl (ht.kind hkk).1 dX10_blowPiece_60 ?_
  refine v_aload C dX10_blowPiece_63 rfl ?_
  refine v_callVi C (c_X4_latestBreaks (ht.kind hkk).1) mt_X4_latestBreaks lk_RX10_286 rfl rfl (ht.kind hkk).1 rfl rfl rfl rfl rfl dX10_blowPiece_65 ?_
  refine v_if_eq 94 C dX10_blowPiece_68 (by decide) (fun h68 => ?_) (fun h68 => ?_)
  · have hb : brk (I (25 + kk) 5) (I (25 + kk) 7 + 1) = 0 := by simp (disch := omega) only [newP_ap, takeI_ap, newP_w, iu_o, iu_k, iu_same] at h68; exact h68
    refine v_aload C dX10_blowPiece_94 rfl ?_
    refine v_iload C dX10_blowPiece_96 rfl ?_
    refine v_putI C fl_RX10_293 rfl hsq dX10_blowPiece_98 ?_
    refine v_aload_n C dX10_blowPiece_101 rfl ?_
    refine v_getR 30 C fl_RX10_53 rfl (ht.1 0 _ rfl) (ht.2 0 6 30 rfl) dX10_blowPiece_102 ?_
    refine v_iload C dX10_blowPiece_105 rfl ?_
    refine v_aaload yj C (ht.1 30 _ rfl) (cn := RX0) ⟨rfl, by decide, by decide⟩ hy (ht.bay hyj).2.1 dX10_blowPiece_107 ?_
    refine v_aload C dX10_blowPiece_108 rfl ?_
    refine v_callVv C (c_X0_put (n := c) (ht.bay hyj).1 (ht.bay hyj).2.2.2 (ht.bay hyj).2.2.1 hsq (by simp (disch := omega) only [newP_ap, takeI_ap, newP_w, iu_o, iu_k, iu_same]; exact hc) hcl) mt_X0_put lk_RX10_296 rfl rfl (ht.bay hyj).1 rfl rfl rfl rfl rfl dX10_blowPiece_110 ?_
    have ht : St s2 (ru R (32 + 2 * yj) c (some q)) := ht.ruB hyj c (some q)
    refine v_aload_n C dX10_blowPiece_113 rfl ?_
    refine v_getR 38 C fl_RX10_70 rfl (ht.1 0 _ rfl) (ht.2 0 8 38 rfl) dX10_blowPiece_114 ?_
    refine v_aload_n C dX10_blowPiece_117 rfl ?_
    refine v_getI C fl_RX10_220 rfl (ht.1 0 _ rfl) dX10_blowPiece_118 ?_
    refine v_aload C dX10_blowPiece_121 rfl ?_
    refine v_aastore n C (ht.1 38 _ rfl) (q := _) (ci := 6) rfl ⟨rfl, by decide, by decide⟩ hsq (at_e (by simp (disch := omega) only [newP_ap, takeI_ap, newP_w, iu_o, iu_k, iu_same]; exact hn) hnl (by decide)) dX10_blowPiece_123 ?_
    refine v_aload_n C dX10_blowPiece_124 rfl ?_
    refine v_dupr C dX10_blowPiece_125 ?_
    refine v_getI C fl_RX10_220 rfl (ht.1 0 _ rfl) dX10_blowPiece_126 ?_
    refine v_iconst 1 C dX10_blowPiece_129 (by decide) ?_
    refine v_iadd C dX10_blowPiece_130 ?_
    refine v_putI C fl_RX10_220 rfl (ht.1 0 _ rfl) dX10_blowPiece_131 ?_
    exact v_vret C dX10_blowPiece_134 (by refine ⟨rfl, hs2e, rfl, ?_⟩; rw [← hq]; first | exact Or.inl ⟨hb, by simp (disch := omega) only [blowX, blowB, newP_ap, takeI_ap, newP_w, iu_o, iu_k, iu_same], rfl⟩ | exact Or.inr ⟨hb, by simp (disch := omega) only [blowY, blowB, newP_ap, takeI_ap, newP_w, iu_o, iu_k, iu_same], rfl⟩)
  · have hb : ¬ brk (I (25 + kk) 5) (I (25 + kk) 7 + 1) = 0 := by simp (disch := omega) only [newP_ap, takeI_ap, newP_w, iu_o, iu_k, iu_same] at h68; exact h68
    refine v_aload C dX10_blowPiece_71 rfl ?_
    refine v_iconst 2 C dX10_blowPiece_73 (by decide) ?_
    refine v_putI C fl_RX10_289 rfl hsq dX10_blowPiece_74 ?_
    refine v_aload_n C dX10_blowPiece_77 rfl ?_
    refine v_dupr C dX10_blowPiece_78 ?_
    refine v_getI C fl_RX10_153 rfl (ht.1 0 _ rfl) dX10_blowPiece_79 ?_
    refine v_aload C dX10_blowPiece_82 rfl ?_
    refine v_getI C fl_RX10_292 rfl hsq dX10_blowPiece_84 ?_
    refine v_iadd C dX10_blowPiece_87 ?_
    refine v_putI C fl_RX10_153 rfl (ht.1 0 _ rfl) dX10_blowPiece_88 ?_
    refine v_goto 113 C dX10_blowPiece_91 (by decide) ?_
    refine v_aload_n C dX10_blowPiece_113 rfl ?_
    refine v_getR 38 C fl_RX10_70 rfl (ht.1 0 _ rfl) (ht.2 0 8 38 rfl) dX10_blowPiece_114 ?_
    refine v_aload_n C dX10_blowPiece_117 rfl ?_
    refine v_getI C fl_RX10_220 rfl (ht.1 0 _ rfl) dX10_blowPiece_118 ?_
    refine v_aload C dX10_blowPiece_121 rfl ?_
    refine v_aastore n C (ht.1 38 _ rfl) (q := _) (ci := 6) rfl ⟨rfl, by decide, by decide⟩ hsq (at_e (by simp (disch := omega) only [newP_ap, takeI_ap, newP_w, iu_o, iu_k, iu_same]; exact hn) hnl (by decide)) dX10_blowPiece_123 ?_
    refine v_aload_n C dX10_blowPiece_124 rfl ?_
    refine v_dupr C dX10_blowPiece_125 ?_
    refine v_getI C fl_RX10_220 rfl (ht.1 0 _ rfl) dX10_blowPiece_126 ?_
    refine v_iconst 1 C dX10_blowPiece_129 (by decide) ?_
    refine v_iadd C dX10_blowPiece_130 ?_
    refine v_putI C fl_RX10_220 rfl (ht.1 0 _ rfl) dX10_blowPiece_131 ?_
    exact v_vret C dX10_blowPiece_134 (by refine ⟨rfl, hs2e, rfl, ?_⟩; rw [← hq]; first | exact Or.inl ⟨hb, by simp (disch := omega) only [blowX, blowB, newP_ap, takeI_ap, newP_w, iu_o, iu_k, iu_same], rfl⟩ | exact Or.inr ⟨hb, by simp (disch := omega) only [blowY, blowB, newP_ap, takeI_ap, newP_w, iu_o, iu_k, iu_same], rfl⟩)

def openR (I : IM) (y : Int32) : Int32 := if wI y 0 2 = 0 then -1 else I (31 + 2 * ix y) 1
def openI (I : IM) (l : List Nat) (y : Int32) : IM := if wI y 0 2 = 0 then I else iu (iu (brkL l I 0).2 (31 + 2 * ix y) 1 0) 0 12 (I 0 12 + (brkL l I 0).1)

set_option maxHeartbeats 4000000 in
set_option maxRecDepth 100000 in
theorem c_X10_open {lnc : Launch} {E : En} {sh : List Sh} {I : IM} {J : JM} {R : RM} {l : List Nat} {y : Int32} (hs : St sh R) (hB : ¬ wI y 0 2 = 0 → BayOK sh I R (31 + 2 * ix y) (32 + 2 * ix y) l) : Ct lnc E yX10_open cX10_open 3 (some .int) 1 23 [.ref 0, .int y] sh I J R 0 0 (m_ret (some (.int (openR I y))) sh (openI I l y) J R) := by
  refine Ct.of (lv := [some (.ref 0), some (.int y), none]) (by decide) (Nat.le_of_ble_eq_true rfl) rfl (fun X hX C => ?_)
  refine v_iload_n C dX10_open_0 rfl ?_
  refine v_iconst 0 C dX10_open_1 (by decide) ?_
  refine v_iconst 2 C dX10_open_2 (by decide) ?_
  refine v_callSi C c_X10_within mt_X10_within lk_RX10_88 rfl rfl rfl rfl rfl dX10_open_3 ?_
  refine v_if_ne 11 C dX10_open_6 (by decide) (fun h6 => ?_) (fun h6 => ?_)
  · refine v_aload_n C dX10_open_11 rfl ?_
    refine v_getR 30 C fl_RX10_53 rfl (hs.1 0 _ rfl) (hs.2 0 6 30 rfl) dX10_open_12 ?_
    refine v_iload_n C dX10_open_15 rfl ?_
    refine v_aaload (ix y) C (hs.1 30 _ rfl) (cn := RX0) ⟨rfl, by decide, by decide⟩ (wI_at h6 (by decide)) (hs.bay (wI_at h6 (by decide) : At y 3 _).lt).2.1 dX10_open_16 ?_
    refine v_getI C fl_RX10_207 rfl (hs.bay (wI_at h6 (by decide) : At y 3 _).lt).1 dX10_open_17 ?_
    refine v_istore_n C dX10_open_20 (Nat.le_of_ble_eq_true rfl) rfl ?_
    refine v_aload_n C dX10_open_21 rfl ?_
    refine v_dupr C dX10_open_22 ?_
    refine v_getI C fl_RX10_153 rfl (hs.1 0 _ rfl) dX10_open_23 ?_
    refine v_aload_n C dX10_open_26 rfl ?_
    refine v_getR 30 C fl_RX10_53 rfl (hs.1 0 _ rfl) (hs.2 0 6 30 rfl) dX10_open_27 ?_
    refine v_iload_n C dX10_open_30 rfl ?_
    refine v_aaload (ix y) C (hs.1 30 _ rfl) (cn := RX0) ⟨rfl, by decide, by decide⟩ (wI_at h6 (by decide)) (hs.bay (wI_at h6 (by decide) : At y 3 _).lt).2.1 dX10_open_31 ?_
    refine v_callVi C (c_X0_breakAll (hs.bay (wI_at h6 (by decide) : At y 3 _).lt).1 (hs.bay (wI_at h6 (by decide) : At y 3 _).lt).2.2.2 (hs.bay (wI_at h6 (by decide) : At y 3 _).lt).2.2.1 (hB h6)) mt_X0_breakAll lk_RX10_208 rfl rfl (hs.bay (wI_at h6 (by decide) : At y 3 _).lt).1 rfl rfl rfl rfl rfl dX10_open_32 ?_
    refine v_iadd C dX10_open_35 ?_
    refine v_putI C fl_RX10_153 rfl (hs.1 0 _ rfl) dX10_open_36 ?_
    refine v_iload_n C dX10_open_39 rfl ?_
    exact v_iret C dX10_open_40 ⟨by simp [openR, *], rfl, by simp [openI, *], rfl, rfl⟩
  · refine v_iconst (-1) C dX10_open_9 (by decide) ?_
    exact v_iret C dX10_open_10 ⟨by simp [openR, *], rfl, by simp [openI, *], rfl, rfl⟩

def blowRc (I : IM) (g k p : Int32) : Int32 := if wI g 0 3 = 0 then 1 else if wI k 0 4 = 0 then 1 else if wI p 0 5 = 0 then 1 else whyF (I (25 + ix k) 0) (endF (I 0 11)) (rdy (I (18 + ix p) 0) (I (18 + ix p) 2) (I (18 + ix p) 3)) (I 4 5) (I (25 + ix k) 4) (I (18 + ix p) 4) (I (18 + ix p) 1) (I (25 + ix k) 1) (I 37 (ix g)) (I (25 + ix k) 2) (fbR (I 31 1) (I 33 1) (I 35 1)) (I 0 14)
def blowQ (sh : List Sh) (I : IM) (J : JM) (R : RM) (n : Nat) (cs : Nat → Nat) (g k p : Int32) : CQ := fun v sh' I' J' R' => (¬ blowRc I g k p = 0 ∧ m_ret (some (.int (blowRc I g k p))) sh I J R v sh' I' J' R') ∨ (blowRc I g k p = 0 ∧ v = some (.int 0) ∧ At (fbR (I 31 1) (I 33 1) (I 35 1)) 3 (ix (fbR (I 31 1) (I 33 1) (I 35 1))) ∧ ¬ wI g 0 3 = 0 ∧ ¬ wI k 0 4 = 0 ∧ ¬ wI p 0 5 = 0 ∧ blowPQ sh I J R (18 + ix p) (25 + ix k) (ix g) (31 + 2 * ix (fbR (I 31 1) (I 33 1) (I 35 1))) (32 + 2 * ix (fbR (I 31 1) (I 33 1) (I 35 1))) n (cs (ix (fbR (I 31 1) (I 33 1) (I 35 1)))) k g (fbR (I 31 1) (I 33 1) (I 35 1)) none sh' I' J' R')
theorem fbR_at {x y z : Int32} (h : ¬ fbR x y z = -1) : At (fbR x y z) 3 (ix (fbR x y z)) ∧ ((ix (fbR x y z) = 0 ∧ ¬ roomF x = 0) ∨ (ix (fbR x y z) = 1 ∧ ¬ roomF y = 0) ∨ (ix (fbR x y z) = 2 ∧ ¬ roomF z = 0)) := by
  unfold fbR at h ⊢
  by_cases h1 : roomF x = 0
  · by_cases h2 : roomF y = 0
    · by_cases h3 : roomF z = 0
      · rw [if_pos h1, if_pos h2, if_pos h3] at h; exact absurd rfl h
      · rw [if_pos h1, if_pos h2, if_neg h3]; exact ⟨at_c rfl, Or.inr (Or.inr ⟨rfl, h3⟩)⟩
    · rw [if_pos h1, if_neg h2]; exact ⟨at_c rfl, Or.inr (Or.inl ⟨rfl, h2⟩)⟩
  · rw [if_neg h1]; exact ⟨at_c rfl, Or.inl ⟨rfl, h1⟩⟩
theorem room_of {n : Nat} (h : ¬ roomF (nI n) = 0) (hn : n < 2 ^ 31) : n < 20 := by
  rcases Nat.lt_or_ge n 20 with q | q
  · exact q
  · exact absurd (by unfold roomF; exact if_pos (show (20 : Int32) ≤ nI n from nI_le (a := 20) q hn)) h
theorem why_0 {told en rd ht kc pc gl wt mi km y bl : Int32} (h : whyF told en rd ht kc pc gl wt mi km y bl = 0) : ¬ y = -1 ∧ bl < 1000 := by
  unfold whyF at h
  repeat' split at h
  all_goals first | exact absurd h (by decide) | skip
  rename_i h1 h2
  exact ⟨h1, h2⟩

set_option maxHeartbeats 4000000 in
set_option maxRecDepth 100000 in
theorem c_X10_blow {lnc : Launch} {E : En} {sh : List Sh} {I : IM} {J : JM} {R : RM} {n : Nat} {g k p : Int32} (cs : Nat → Nat) (hs : St sh R) (hB : Blank sh I J R) (hn : I 0 14 = nI n) (hnl : n < 1000) (hc0 : I 31 1 = nI (cs 0)) (hc1 : I 33 1 = nI (cs 1)) (hc2 : I 35 1 = nI (cs 2)) (hcl : ∀ j, cs j ≤ 20) : Ct lnc E yX10_blow cX10_blow 6 (some .int) 3 71 [.ref 0, .int g, .int k, .int p] sh I J R 1 9 (blowQ sh I J R n cs g k p) := by
  refine Ct.of (lv := [some (.ref 0), some (.int g), some (.int k), some (.int p), none, none]) (by decide) (Nat.le_of_ble_eq_true rfl) rfl (fun X hX C => ?_)
  refine v_iload_n C dX10_blow_0 rfl ?_
  refine v_iconst 0 C dX10_blow_1 (by decide) ?_
  refine v_iconst 3 C dX10_blow_2 (by decide) ?_
  refine v_callSi C c_X10_within mt_X10_within lk_RX10_88 rfl rfl rfl rfl rfl dX10_blow_3 ?_
  refine v_if_eq 27 C dX10_blow_6 (by decide) (fun h6 => ?_) (fun h6 => ?_)
  · refine v_iconst 1 C dX10_blow_27 (by decide) ?_
    refine v_widen (c2 := 1) (s2 := 9) (Nat.zero_le _) (Nat.zero_le _) ?_
    exact v_iret C dX10_blow_28 (Or.inl ⟨by simp [blowRc, *], by simp [blowRc, *]; exact m_ret_rf⟩)
  · refine v_iload_n C dX10_blow_9 rfl ?_
    refine v_iconst 0 C dX10_blow_10 (by decide) ?_
    refine v_iconst 4 C dX10_blow_11 (by decide) ?_
    refine v_callSi C c_X10_within mt_X10_within lk_RX10_88 rfl rfl rfl rfl rfl dX10_blow_12 ?_
    refine v_if_eq 27 C dX10_blow_15 (by decide) (fun h15 => ?_) (fun h15 => ?_)
    · refine v_iconst 1 C dX10_blow_27 (by decide) ?_
      refine v_widen (c2 := 1) (s2 := 9) (Nat.zero_le _) (Nat.zero_le _) ?_
      exact v_iret C dX10_blow_28 (Or.inl ⟨by simp [blowRc, *], by simp [blowRc, *]; exact m_ret_rf⟩)
    · refine v_iload_n C dX10_blow_18 rfl ?_
      refine v_iconst 0 C dX10_blow_19 (by decide) ?_
      refine v_iconst 5 C dX10_blow_20 (by decide) ?_
      refine v_callSi C c_X10_within mt_X10_within lk_RX10_88 rfl rfl rfl rfl rfl dX10_blow_21 ?_
      refine v_if_ne 29 C dX10_blow_24 (by decide) (fun h24 => ?_) (fun h24 => ?_)
      · refine v_aload_n C dX10_blow_29 rfl ?_
        refine v_callVi C (c_X10_firstBayWithRoom hs) mt_X10_firstBayWithRoom lk_RX10_195 rfl rfl (hs.1 0 _ rfl) rfl rfl rfl rfl rfl dX10_blow_30 ?_
        refine v_istore C dX10_blow_33 (Nat.le_of_ble_eq_true rfl) rfl ?_
        refine v_aload_n C dX10_blow_35 rfl ?_
        refine v_iload_n C dX10_blow_36 rfl ?_
        refine v_aload_n C dX10_blow_37 rfl ?_
        refine v_getR 24 C fl_RX10_46 rfl (hs.1 0 _ rfl) (hs.2 0 5 24 rfl) dX10_blow_38 ?_
        refine v_iload_n C dX10_blow_41 rfl ?_
        refine v_aaload (ix k) C (hs.1 24 _ rfl) (cn := RX4) ⟨rfl, by decide, by decide⟩ (wI_at h15 (by decide)) (hs.kind (wI_at h15 (by decide) : At k 5 _).lt).2 dX10_blow_42 ?_
        refine v_aload_n C dX10_blow_43 rfl ?_
        refine v_getR 17 C fl_RX10_39 rfl (hs.1 0 _ rfl) (hs.2 0 4 17 rfl) dX10_blow_44 ?_
        refine v_iload_n C dX10_blow_47 rfl ?_
        refine v_aaload (ix p) C (hs.1 17 _ rfl) (cn := RX7) ⟨rfl, by decide, by decide⟩ (wI_at h24 (by decide)) (hs.pot (wI_at h24 (by decide) : At p 6 _).lt).2 dX10_blow_48 ?_
        refine v_iload C dX10_blow_49 rfl ?_
        refine v_callVi C (c_X10_whyNotBlown hs (hs.kind (wI_at h15 (by decide) : At k 5 _).lt).1 (hs.pot (wI_at h24 (by decide) : At p 6 _).lt).1 (wI_at h6 (by decide))) mt_X10_whyNotBlown lk_RX10_199 rfl rfl (hs.1 0 _ rfl) rfl rfl rfl rfl rfl dX10_blow_51 ?_
        refine v_istore C dX10_blow_54 (Nat.le_of_ble_eq_true rfl) rfl ?_
        refine v_iload C dX10_blow_56 rfl ?_
        have hr : blowRc I g k p = whyF (I (25 + ix k) 0) (endF (I 0 11)) (rdy (I (18 + ix p) 0) (I (18 + ix p) 2) (I (18 + ix p) 3)) (I 4 5) (I (25 + ix k) 4) (I (18 + ix p) 4) (I (18 + ix p) 1) (I (25 + ix k) 1) (I 37 (ix g)) (I (25 + ix k) 2) (fbR (I 31 1) (I 33 1) (I 35 1)) (I 0 14) := by simp only [blowRc, if_neg h6, if_neg h15, if_neg h24]
        refine v_if_ne 81 C dX10_blow_58 (by decide) (fun h58 => ?_) (fun h58 => ?_)
        · refine v_iload C dX10_blow_81 rfl ?_
          first | exact v_iret C dX10_blow_83 (Or.inr ⟨by rw [hr]; exact h58, by rw [h58], hy, h6, h15, h24, hQ⟩) | exact v_widen (c2 := 1) (s2 := 9) (Nat.zero_le _) (Nat.zero_le _) (v_iret C dX10_blow_83 (Or.inl ⟨by rw [hr]; exact h58, by rw [hr]; exact m_ret_rf⟩))
        · refine v_iload C dX10_blow_61 rfl ?_
          refine v_iconst (-1) C dX10_blow_63 (by decide) ?_
          refine v_icmp_eq 81 C dX10_blow_64 (by decide) (fun h64 => False.elim ((why_0 h58).1 h64)) (fun h64 => ?_)
          refine v_aload_n C dX10_blow_67 rfl ?_
          refine v_iload_n C dX10_blow_68 rfl ?_
          refine v_iload_n C dX10_blow_69 rfl ?_
          refine v_aload_n C dX10_blow_70 rfl ?_
          refine v_getR 17 C fl_RX10_39 rfl (hs.1 0 _ rfl) (hs.2 0 4 17 rfl) dX10_blow_71 ?_
          refine v_iload_n C dX10_blow_74 rfl ?_
          refine v_aaload (ix p) C (hs.1 17 _ rfl) (cn := RX7) ⟨rfl, by decide, by decide⟩ (wI_at h24 (by decide)) (hs.pot (wI_at h24 (by decide) : At p 6 _).lt).2 dX10_blow_75 ?_
          refine v_iload C dX10_blow_76 rfl ?_
          obtain ⟨hy, hyc⟩ := fbR_at (why_0 h58).1
          have hyl := hy.lt
          have hcc : I (31 + 2 * ix (fbR (I 31 1) (I 33 1) (I 35 1))) 1 = nI (cs (ix (fbR (I 31 1) (I 33 1) (I 35 1)))) ∧ cs (ix (fbR (I 31 1) (I 33 1) (I 35 1))) < 20 := by rcases hyc with ⟨e, q⟩ | ⟨e, q⟩ | ⟨e, q⟩ <;> rw [e] <;> first | exact ⟨hc0, room_of (by rw [← hc0]; exact q) (by have := hcl 0; omega)⟩ | exact ⟨hc1, room_of (by rw [← hc1]; exact q) (by have := hcl 1; omega)⟩ | exact ⟨hc2, room_of (by rw [← hc2]; exact q) (by have := hcl 2; omega)⟩
          have hpl := (wI_at h24 (by decide) : At p 6 _).lt
          refine v_callV C (c_X10_blowPiece hs hB (wI_at h6 (by decide)) (wI_at h15 (by decide)) (hs.pot (wI_at h24 (by decide) : At p 6 _).lt).1 (by omega) hy hn hnl hcc.1 hcc.2) mt_X10_blowPiece lk_RX10_203 rfl rfl (hs.1 0 _ rfl) rfl rfl rfl (Nat.le_of_ble_eq_true rfl) (rmB_ok rfl) dX10_blow_78 ?_
          intro v sh1 I1 J1 R1 hQ
          have hv := hQ.1
          subst hv
          refine v_iload C dX10_blow_81 rfl ?_
          first | exact v_iret C dX10_blow_83 (Or.inr ⟨by rw [hr]; exact h58, by rw [h58], hy, h6, h15, h24, hQ⟩) | exact v_widen (c2 := 1) (s2 := 9) (Nat.zero_le _) (Nat.zero_le _) (v_iret C dX10_blow_83 (Or.inl ⟨by rw [hr]; exact h58, by rw [hr]; exact m_ret_rf⟩))
      · refine v_iconst 1 C dX10_blow_27 (by decide) ?_
        refine v_widen (c2 := 1) (s2 := 9) (Nat.zero_le _) (Nat.zero_le _) ?_
        exact v_iret C dX10_blow_28 (Or.inl ⟨by simp [blowRc, *], by simp [blowRc, *]; exact m_ret_rf⟩)
