set_option maxHeartbeats 4000000 in
set_option maxRecDepth 100000 in
theorem c_X0_coolHour {lnc : Launch} {E : En} {sh : List Sh} {I : IM} {J : JM} {R : RM} {a b : Nat} {l : List Nat} (hsa : sh[a]? = some (.inl 0)) (hra : R a 0 = some b) (hsb : sh[b]? = some (.inr (7, 20))) (hB : BayOK sh I R a b l) : Ct lnc E yX0_coolHour cX0_coolHour 4 none 0 0 [.ref a] sh I J R 0 0 (coolQ sh I J R a b l) := by
  refine Ct.of (lv := [some (.ref a), none, none, none]) (by decide) (Nat.le_of_ble_eq_true rfl) rfl (fun X hX C => ?_)
  obtain ⟨hn, hl, hR, hq⟩ := hB
  have loop : ∀ (fuel : Nat) (todo ks : List Nat) (c i : Nat) (Ii : IM) (Ri : RM), todo.length < fuel → CInv sh R I a b l todo ks c i Ii Ri → V E X (m_Z E X (coolQ sh I J R a b l) 0 0) 0 0 sh Ii J Ri 4 [some (.ref a), some (.int (nI c)), some (.int (nI i)), none] [] := by
    intro fuel
    induction fuel with
    | zero => intro todo ks c i Ii Ri hfuel; exact absurd hfuel (Nat.not_lt_zero _)
    | succ fuel ih =>
      intro todo ks c i Ii Ri hfuel hI
      refine v_iload_n C dX0_coolHour_4 rfl ?_
      refine v_aload_n C dX0_coolHour_5 rfl ?_
      refine v_getI C fl_RX0_15 rfl hsa dX0_coolHour_6 ?_
      rw [hI.2.2.2.2.2.2.2.1]
      refine v_icmp_ge 68 C dX0_coolHour_9 (by decide) (fun h9 => ?_) (fun h9 => ?_)
      · have hil := nI_le_of h9 (by have := hI.1; omega) (by omega)
        obtain rfl := List.length_eq_zero_iff.mp (show todo.length = 0 by have := hI.1; omega)
        refine v_aload_n C dX0_coolHour_68 rfl ?_
        refine v_iload_n C dX0_coolHour_69 rfl ?_
        refine v_putI C fl_RX0_15 rfl hsa dX0_coolHour_70 ?_
        exact v_vret C dX0_coolHour_73 hI.fin
      · have hil := nI_lt_of h9 (by have := hI.1; omega)
        obtain ⟨p, t, rfl⟩ := List.exists_cons_of_length_pos (l := todo) (by have := hI.1; omega)
        have hsp := hI.2.2.2.2.2.2.2.2 p List.mem_cons_self
        have hpa : a ≠ p := sh_ne hsa hsp (by decide)
        have hfu : t.length < fuel := by simp only [List.length_cons] at hfuel; omega
        have hri : Ri a 0 = some b := by rw [hI.2.2.2.2.2.2.1 a (sh_ne hsa hsb (by decide))]; exact hra
        refine v_aload_n C dX0_coolHour_12 rfl ?_
        refine v_getR (b) C fl_RX0_11 rfl hsa hri dX0_coolHour_13 ?_
        refine v_iload_n C dX0_coolHour_16 rfl ?_
        refine v_aaload i C hsb (cn := RX6) ⟨rfl, by decide, by decide⟩ (at_nI (by omega) (by decide)) (by simpa using hI.2.2.2.2.2.1 0 (by simp)) dX0_coolHour_17 ?_
        refine v_astore_n C dX0_coolHour_18 (Nat.le_of_ble_eq_true rfl) rfl ?_
        refine v_aload_n C dX0_coolHour_19 rfl ?_
        refine v_ifnull C dX0_coolHour_20 ?_
        refine v_aload_n C dX0_coolHour_23 rfl ?_
        refine v_dupr C dX0_coolHour_24 ?_
        refine v_getI C fl_RX0_23 rfl hsp dX0_coolHour_25 ?_
        refine v_iconst 1 C dX0_coolHour_28 (by decide) ?_
        refine v_iadd C dX0_coolHour_29 ?_
        refine v_putI C fl_RX0_23 rfl hsp dX0_coolHour_30 ?_
        refine v_aload_n C dX0_coolHour_33 rfl ?_
        refine v_getI C fl_RX0_23 rfl hsp dX0_coolHour_34 ?_
        refine v_aload_n C dX0_coolHour_37 rfl ?_
        refine v_getI C fl_RX0_26 rfl hsp dX0_coolHour_38 ?_
        refine v_icmp_lt 52 C dX0_coolHour_41 (by decide) (fun h41 => ?_) (fun h41 => ?_)
        · have hk : Ii p 8 + 1 < Ii p 5 := by simpa [iu_ap] using h41
          refine v_aload_n C dX0_coolHour_52 rfl ?_
          refine v_getR (b) C fl_RX0_11 rfl hsa hri dX0_coolHour_53 ?_
          refine v_iload_n C dX0_coolHour_56 rfl ?_
          refine v_aload_n C dX0_coolHour_57 rfl ?_
          refine v_aastore c C hsb (q := _) (ci := 6) rfl ⟨rfl, by decide, by decide⟩ hsp (at_nI (by have := hI.2.1; omega) (by decide)) dX0_coolHour_58 ?_
          refine v_iinc (nI (c + 1)) C dX0_coolHour_59 rfl (nI_1 c) (Nat.le_of_ble_eq_true rfl) rfl ?_
          refine v_iinc (nI (i + 1)) C dX0_coolHour_62 rfl (nI_1 i) (Nat.le_of_ble_eq_true rfl) rfl ?_
          refine v_goto 4 C dX0_coolHour_65 (by decide) ?_
          refine v_drop 3 ?_
          first | exact ih t _ _ _ _ _ hfu (hI.keep hpa hk) | exact ih t _ _ _ _ _ hfu (hI.drop hpa hk)
        · have hk : ¬ Ii p 8 + 1 < Ii p 5 := by simpa [iu_ap] using h41
          refine v_aload_n C dX0_coolHour_44 rfl ?_
          refine v_iconst 1 C dX0_coolHour_45 (by decide) ?_
          refine v_putI C fl_RX0_29 rfl hsp dX0_coolHour_46 ?_
          refine v_goto 62 C dX0_coolHour_49 (by decide) ?_
          refine v_iinc (nI (i + 1)) C dX0_coolHour_62 rfl (nI_1 i) (Nat.le_of_ble_eq_true rfl) rfl ?_
          refine v_goto 4 C dX0_coolHour_65 (by decide) ?_
          refine v_drop 3 ?_
          first | exact ih t _ _ _ _ _ hfu (hI.keep hpa hk) | exact ih t _ _ _ _ _ hfu (hI.drop hpa hk)
  refine v_iconst 0 C dX0_coolHour_0 (by decide) ?_
  refine v_istore_n C dX0_coolHour_1 (Nat.le_of_ble_eq_true rfl) rfl ?_
  refine v_iconst 0 C dX0_coolHour_2 (by decide) ?_
  refine v_istore_n C dX0_coolHour_3 (Nat.le_of_ble_eq_true rfl) rfl ?_
  exact loop (l.length + 1) l [] 0 0 I R (Nat.lt_succ_self _) ⟨by simp, by simp, rfl, by simp, fun j hj => absurd hj (Nat.not_lt_zero j), fun j hj => by rw [Nat.zero_add]; exact hR j hj, fun _ _ => rfl, hn, hq⟩

set_option maxHeartbeats 4000000 in
set_option maxRecDepth 100000 in
theorem c_X0_breakAll {lnc : Launch} {E : En} {sh : List Sh} {I : IM} {J : JM} {R : RM} {a b : Nat} {l : List Nat} (hsa : sh[a]? = some (.inl 0)) (hra : R a 0 = some b) (hsb : sh[b]? = some (.inr (7, 20))) (hB : BayOK sh I R a b l) : Ct lnc E yX0_breakAll cX0_breakAll 4 (some .int) 0 0 [.ref a] sh I J R 0 0 (m_ret (some (.int (brkL l I 0).1)) sh (iu (brkL l I 0).2 a 1 0) J R) := by
  refine Ct.of (lv := [some (.ref a), none, none, none]) (by decide) (Nat.le_of_ble_eq_true rfl) rfl (fun X hX C => ?_)
  obtain ⟨hn, hl, hR, hq⟩ := hB
  have loop : ∀ (fuel : Nat) (todo : List Nat) (i : Nat) (Ii : IM) (w : Int32), todo.length < fuel → BInv sh R I a b l todo i Ii w → V E X (m_Z E X (m_ret (some (.int (brkL l I 0).1)) sh (iu (brkL l I 0).2 a 1 0) J R) 0 0) 0 0 sh Ii J R 4 [some (.ref a), some (.int w), some (.int (nI i)), none] [] := by
    intro fuel
    induction fuel with
    | zero => intro todo i Ii w hfuel; exact absurd hfuel (Nat.not_lt_zero _)
    | succ fuel ih =>
      intro todo i Ii w hfuel hI
      refine v_iload_n C dX0_breakAll_4 rfl ?_
      refine v_aload_n C dX0_breakAll_5 rfl ?_
      refine v_getI C fl_RX0_15 rfl hsa dX0_breakAll_6 ?_
      rw [hI.2.2.2.1]
      refine v_icmp_ge 41 C dX0_breakAll_9 (by decide) (fun h9 => ?_) (fun h9 => ?_)
      · have hil := nI_le_of h9 (by have := hI.1; omega) (by omega)
        obtain rfl := List.length_eq_zero_iff.mp (show todo.length = 0 by have := hI.1; omega)
        obtain ⟨q1, q2, q3, q4, q5⟩ := hI
        refine v_aload_n C dX0_breakAll_41 rfl ?_
        refine v_iconst 0 C dX0_breakAll_42 (by decide) ?_
        refine v_putI C fl_RX0_15 rfl hsa dX0_breakAll_43 ?_
        refine v_iload_n C dX0_breakAll_46 rfl ?_
        exact v_iret C dX0_breakAll_47 ⟨by rw [q2]; rfl, rfl, by rw [q2]; rfl, rfl, rfl⟩
      · have hil := nI_lt_of h9 (by have := hI.1; omega)
        obtain ⟨p, t, rfl⟩ := List.exists_cons_of_length_pos (l := todo) (by have := hI.1; omega)
        have hsp := hI.2.2.2.2 p List.mem_cons_self
        have hpa : a ≠ p := sh_ne hsa hsp (by decide)
        have hfu : t.length < fuel := by simp only [List.length_cons] at hfuel; omega
        refine v_aload_n C dX0_breakAll_12 rfl ?_
        refine v_getR (b) C fl_RX0_11 rfl hsa hra dX0_breakAll_13 ?_
        refine v_iload_n C dX0_breakAll_16 rfl ?_
        refine v_aaload i C hsb (cn := RX6) ⟨rfl, by decide, by decide⟩ (at_nI (by omega) (by decide)) (by simpa using hI.2.2.1 0 (by simp)) dX0_breakAll_17 ?_
        refine v_astore_n C dX0_breakAll_18 (Nat.le_of_ble_eq_true rfl) rfl ?_
        refine v_aload_n C dX0_breakAll_19 rfl ?_
        refine v_ifnull C dX0_breakAll_20 ?_
        refine v_aload_n C dX0_breakAll_23 rfl ?_
        refine v_iconst 3 C dX0_breakAll_24 (by decide) ?_
        refine v_putI C fl_RX0_29 rfl hsp dX0_breakAll_25 ?_
        refine v_iload_n C dX0_breakAll_28 rfl ?_
        refine v_aload_n C dX0_breakAll_29 rfl ?_
        refine v_getI C fl_RX0_32 rfl hsp dX0_breakAll_30 ?_
        refine v_iadd C dX0_breakAll_33 ?_
        refine v_istore_n C dX0_breakAll_34 (Nat.le_of_ble_eq_true rfl) rfl ?_
        refine v_iinc (nI (i + 1)) C dX0_breakAll_35 rfl (nI_1 i) (Nat.le_of_ble_eq_true rfl) rfl ?_
        refine v_goto 4 C dX0_breakAll_38 (by decide) ?_
        refine v_drop 3 ?_
        exact ih t _ _ _ hfu (by simpa [iu_ap] using hI.step hpa)
  refine v_iconst 0 C dX0_breakAll_0 (by decide) ?_
  refine v_istore_n C dX0_breakAll_1 (Nat.le_of_ble_eq_true rfl) rfl ?_
  refine v_iconst 0 C dX0_breakAll_2 (by decide) ?_
  refine v_istore_n C dX0_breakAll_3 (Nat.le_of_ble_eq_true rfl) rfl ?_
  exact loop (l.length + 1) l 0 I 0 (Nat.lt_succ_self _) ⟨by simp, rfl, fun j hj => by rw [Nat.zero_add]; exact hR j hj, hn, hq⟩

set_option maxHeartbeats 4000000 in
set_option maxRecDepth 100000 in
theorem c_X0_put {lnc : Launch} {E : En} {sh : List Sh} {I : IM} {J : JM} {R : RM} {a b p n : Nat} (hsa : sh[a]? = some (.inl 0)) (hra : R a 0 = some b) (hsb : sh[b]? = some (.inr (7, 20))) (hsp : sh[p]? = some (.inl 6)) (hn : I a 1 = nI n) (hl : n < 20) : Ct lnc E yX0_put cX0_put 2 none 1 20 [.ref a, .ref p] sh I J R 0 0 (m_ret none sh (iu I a 1 (I a 1 + 1)) J (ru R b n (some p))) := by
  refine Ct.of (lv := [some (.ref a), some (.ref p)]) (by decide) (Nat.le_of_ble_eq_true rfl) rfl (fun X hX C => ?_)
  refine v_aload_n C dX0_put_0 rfl ?_
  refine v_callVi C (c_X0_hasRoom hsa) mt_X0_hasRoom lk_RX0_19 rfl rfl hsa rfl rfl rfl rfl rfl dX0_put_1 ?_
  refine v_if_eq 27 C dX0_put_4 (by decide) (fun h4 => False.elim (by rw [hn, room_lt hl] at h4; exact absurd h4 (by decide))) (fun h4 => ?_)
  refine v_aload_n C dX0_put_7 rfl ?_
  refine v_getR (b) C fl_RX0_11 rfl hsa hra dX0_put_8 ?_
  refine v_aload_n C dX0_put_11 rfl ?_
  refine v_getI C fl_RX0_15 rfl hsa dX0_put_12 ?_
  refine v_aload_n C dX0_put_15 rfl ?_
  refine v_aastore n C hsb (q := _) (ci := 6) rfl ⟨rfl, by decide, by decide⟩ hsp (at_e hn hl (by decide)) dX0_put_16 ?_
  refine v_aload_n C dX0_put_17 rfl ?_
  refine v_dupr C dX0_put_18 ?_
  refine v_getI C fl_RX0_15 rfl hsa dX0_put_19 ?_
  refine v_iconst 1 C dX0_put_22 (by decide) ?_
  refine v_iadd C dX0_put_23 ?_
  refine v_putI C fl_RX0_15 rfl hsa dX0_put_24 ?_
  exact v_vret C dX0_put_27 ⟨rfl, rfl, rfl, rfl, rfl⟩

def fbR (x y z : Int32) : Int32 := if roomF x = 0 then (if roomF y = 0 then (if roomF z = 0 then -1 else 2) else 1) else 0

set_option maxHeartbeats 4000000 in
set_option maxRecDepth 100000 in
theorem c_X10_firstBayWithRoom {lnc : Launch} {E : En} {sh : List Sh} {I : IM} {J : JM} {R : RM} (hs : St sh R) : Ct lnc E yX10_firstBayWithRoom cX10_firstBayWithRoom 2 (some .int) 1 20 [.ref 0] sh I J R 0 0 (m_ret (some (.int (fbR (I 31 1) (I 33 1) (I 35 1)))) sh I J R) := by
  refine Ct.of (lv := [some (.ref 0), none]) (by decide) (Nat.le_of_ble_eq_true rfl) rfl (fun X hX C => ?_)
  refine v_iconst 0 C dX10_firstBayWithRoom_0 (by decide) ?_
  refine v_istore_n C dX10_firstBayWithRoom_1 (Nat.le_of_ble_eq_true rfl) rfl ?_
  refine v_iload_n C dX10_firstBayWithRoom_2 rfl ?_
  refine v_iconst 3 C dX10_firstBayWithRoom_3 (by decide) ?_
  refine v_icmp_ge 27 C dX10_firstBayWithRoom_4 (by decide) (fun h4 => absurd h4 (by decide)) (fun _ => ?_)
  refine v_aload_n C dX10_firstBayWithRoom_7 rfl ?_
  refine v_getR 30 C fl_RX10_53 rfl (hs.1 0 _ rfl) (hs.2 0 6 30 rfl) dX10_firstBayWithRoom_8 ?_
  refine v_iload_n C dX10_firstBayWithRoom_11 rfl ?_
  refine v_aaload 0 C (hs.1 30 _ rfl) (cn := RX0) ⟨rfl, by decide, by decide⟩ (at_c rfl) (hs.2 30 0 31 rfl) dX10_firstBayWithRoom_12 ?_
  refine v_callVi C (c_X0_hasRoom (hs.1 31 _ rfl)) mt_X0_hasRoom lk_RX10_273 rfl rfl (hs.1 31 _ rfl) rfl rfl rfl rfl rfl dX10_firstBayWithRoom_13 ?_
  refine v_if_eq 21 C dX10_firstBayWithRoom_16 (by decide) (fun h16 => ?_) (fun h16 => ?_)
  · refine v_iinc 1 C dX10_firstBayWithRoom_21 rfl (by decide) (Nat.le_of_ble_eq_true rfl) rfl ?_
    refine v_goto 2 C dX10_firstBayWithRoom_24 (by decide) ?_
    refine v_iload_n C dX10_firstBayWithRoom_2 rfl ?_
    refine v_iconst 3 C dX10_firstBayWithRoom_3 (by decide) ?_
    refine v_icmp_ge 27 C dX10_firstBayWithRoom_4 (by decide) (fun h4 => absurd h4 (by decide)) (fun _ => ?_)
    refine v_aload_n C dX10_firstBayWithRoom_7 rfl ?_
    refine v_getR 30 C fl_RX10_53 rfl (hs.1 0 _ rfl) (hs.2 0 6 30 rfl) dX10_firstBayWithRoom_8 ?_
    refine v_iload_n C dX10_firstBayWithRoom_11 rfl ?_
    refine v_aaload 1 C (hs.1 30 _ rfl) (cn := RX0) ⟨rfl, by decide, by decide⟩ (at_c rfl) (hs.2 30 1 33 rfl) dX10_firstBayWithRoom_12 ?_
    refine v_callVi C (c_X0_hasRoom (hs.1 33 _ rfl)) mt_X0_hasRoom lk_RX10_273 rfl rfl (hs.1 33 _ rfl) rfl rfl rfl rfl rfl dX10_firstBayWithRoom_13 ?_
    refine v_if_eq 21 C dX10_firstBayWithRoom_16 (by decide) (fun h16 => ?_) (fun h16 => ?_)
    · refine v_iinc 2 C dX10_firstBayWithRoom_21 rfl (by decide) (Nat.le_of_ble_eq_true rfl) rfl ?_
      refine v_goto 2 C dX10_firstBayWithRoom_24 (by decide) ?_
      refine v_iload_n C dX10_firstBayWithRoom_2 rfl ?_
      refine v_iconst 3 C dX10_firstBayWithRoom_3 (by decide) ?_
      refine v_icmp_ge 27 C dX10_firstBayWithRoom_4 (by decide) (fun h4 => absurd h4 (by decide)) (fun _ => ?_)
      refine v_aload_n C dX10_firstBayWithRoom_7 rfl ?_
      refine v_getR 30 C fl_RX10_53 rfl (hs.1 0 _ rfl) (hs.2 0 6 30 rfl) dX10_firstBayWithRoom_8 ?_
      refine v_iload_n C dX10_firstBayWithRoom_11 rfl ?_
      refine v_aaload 2 C (hs.1 30 _ rfl) (cn := RX0) ⟨rfl, by decide, by decide⟩ (at_c rfl) (hs.2 30 2 35 rfl) dX10_firstBayWithRoom_12 ?_
      refine v_callVi C (c_X0_hasRoom (hs.1 35 _ rfl)) mt_X0_hasRoom lk_RX10_273 rfl rfl (hs.1 35 _ rfl) rfl rfl rfl rfl rfl dX10_firstBayWithRoom_13 ?_
      refine v_if_eq 21 C dX10_firstBayWithRoom_16 (by decide) (fun h16 => ?_) (fun h16 => ?_)
      · refine v_iinc 3 C dX10_firstBayWithRoom_21 rfl (by decide) (Nat.le_of_ble_eq_true rfl) rfl ?_
        refine v_goto 2 C dX10_firstBayWithRoom_24 (by decide) ?_
        refine v_iload_n C dX10_firstBayWithRoom_2 rfl ?_
        refine v_iconst 3 C dX10_firstBayWithRoom_3 (by decide) ?_
        refine v_icmp_ge 27 C dX10_firstBayWithRoom_4 (by decide) (fun _ => ?_) (fun h4 => absurd h4 (by decide))
        refine v_iconst (-1) C dX10_firstBayWithRoom_27 (by decide) ?_
        exact v_iret C dX10_firstBayWithRoom_28 ⟨by simp [fbR, *], rfl, rfl, rfl, rfl⟩
      · refine v_iload_n C dX10_firstBayWithRoom_19 rfl ?_
        exact v_iret C dX10_firstBayWithRoom_20 ⟨by simp [fbR, *], rfl, rfl, rfl, rfl⟩
    · refine v_iload_n C dX10_firstBayWithRoom_19 rfl ?_
      exact v_iret C dX10_firstBayWithRoom_20 ⟨by simp [fbR, *], rfl, rfl, rfl, rfl⟩
  · refine v_iload_n C dX10_firstBayWithRoom_19 rfl ?_
    exact v_iret C dX10_firstBayWithRoom_20 ⟨by simp [fbR, *], rfl, rfl, rfl, rfl⟩

def whyF (told en rd ht kc pc gl wt mi km by_ bl : Int32) : Int32 := if told = 0 then 1 else if en = 0 then (if rd = 0 then 2 else if 900 ≤ ht then (if kc = -1 ∨ kc = pc then (if wt ≤ gl then (if km ≤ mi then (if by_ = -1 then 7 else if bl < 1000 then 0 else 7) else 6) else 5) else 4) else 3) else 1

set_option maxHeartbeats 4000000 in
set_option maxRecDepth 100000 in
theorem c_X10_whyNotBlown {lnc : Launch} {E : En} {sh : List Sh} {I : IM} {J : JM} {R : RM} {k p j : Nat} {g y : Int32} (hs : St sh R) (hk : sh[k]? = some (.inl 4)) (hp : sh[p]? = some (.inl 7)) (hj : At g 4 j) : Ct lnc E yX10_whyNotBlown cX10_whyNotBlown 5 (some .int) 2 40 [.ref 0, .int g, .ref k, .ref p, .int y] sh I J R 0 0 (m_ret (some (.int (whyF (I k 0) (endF (I 0 11)) (rdy (I p 0) (I p 2) (I p 3)) (I 4 5) (I k 4) (I p 4) (I p 1) (I k 1) (I 37 j) (I k 2) y (I 0 14)))) sh I J R) := by
  refine Ct.of (lv := [some (.ref 0), some (.int g), some (.ref k), some (.ref p), some (.int y)]) (by decide) (Nat.le_of_ble_eq_true rfl) rfl (fun X hX C => ?_)
  refine v_aload_n C dX10_whyNotBlown_0 rfl ?_
  refine v_getI C fl_RX10_175 rfl hk dX10_whyNotBlown_1 ?_
  refine v_if_eq 14 C dX10_whyNotBlown_4 (by decide) (fun h4 => ?_) (fun h4 => ?_)
  · refine v_iconst 1 C dX10_whyNotBlown_14 (by decide) ?_
    exact v_iret C dX10_whyNotBlown_15 ⟨by simp [whyF, *], rfl, rfl, rfl, rfl⟩
  · refine v_aload_n C dX10_whyNotBlown_7 rfl ?_
    refine v_callVi C (c_X10_atEnd (hs.1 0 _ rfl)) mt_X10_atEnd lk_RX10_96 rfl rfl (hs.1 0 _ rfl) rfl rfl rfl rfl rfl dX10_whyNotBlown_8 ?_
    refine v_if_eq 16 C dX10_whyNotBlown_11 (by decide) (fun h11 => ?_) (fun h11 => ?_)
    · refine v_aload_n C dX10_whyNotBlown_16 rfl ?_
      refine v_callVi C (c_X7_isReady hp) mt_X7_isReady lk_RX10_274 rfl rfl hp rfl rfl rfl rfl rfl dX10_whyNotBlown_17 ?_
      refine v_if_ne 25 C dX10_whyNotBlown_20 (by decide) (fun h20 => ?_) (fun h20 => ?_)
      · refine v_aload_n C dX10_whyNotBlown_25 rfl ?_
        refine v_getR 4 C fl_RX10_19 rfl (hs.1 0 _ rfl) (hs.2 0 1 4 rfl) dX10_whyNotBlown_26 ?_
        refine v_getI C fl_RX10_122 rfl (hs.1 4 _ rfl) dX10_whyNotBlown_29 ?_
        refine v_sipush 900 C dX10_whyNotBlown_32 (by decide) ?_
        refine v_icmp_ge 40 C dX10_whyNotBlown_35 (by decide) (fun h35 => ?_) (fun h35 => ?_)
        · refine v_aload_n C dX10_whyNotBlown_40 rfl ?_
          refine v_getI C fl_RX10_188 rfl hk dX10_whyNotBlown_41 ?_
          refine v_iconst (-1) C dX10_whyNotBlown_44 (by decide) ?_
          refine v_icmp_eq 61 C dX10_whyNotBlown_45 (by decide) (fun h45 => ?_) (fun h45 => ?_)
          · refine v_aload_n C dX10_whyNotBlown_61 rfl ?_
            refine v_getI C fl_RX10_169 rfl hp dX10_whyNotBlown_62 ?_
            refine v_aload_n C dX10_whyNotBlown_65 rfl ?_
            refine v_getI C fl_RX10_179 rfl hk dX10_whyNotBlown_66 ?_
            refine v_icmp_ge 74 C dX10_whyNotBlown_69 (by decide) (fun h69 => ?_) (fun h69 => ?_)
            · refine v_aload_n C dX10_whyNotBlown_74 rfl ?_
              refine v_getR 37 C fl_RX10_58 rfl (hs.1 0 _ rfl) (hs.2 0 7 37 rfl) dX10_whyNotBlown_75 ?_
              refine v_iload_n C dX10_whyNotBlown_78 rfl ?_
              refine v_iaload j C (hs.1 37 _ rfl) hj dX10_whyNotBlown_79 ?_
              refine v_aload_n C dX10_whyNotBlown_80 rfl ?_
              refine v_getI C fl_RX10_182 rfl hk dX10_whyNotBlown_81 ?_
              refine v_icmp_ge 90 C dX10_whyNotBlown_84 (by decide) (fun h84 => ?_) (fun h84 => ?_)
              · refine v_iload C dX10_whyNotBlown_90 rfl ?_
                refine v_iconst (-1) C dX10_whyNotBlown_92 (by decide) ?_
                refine v_icmp_eq 106 C dX10_whyNotBlown_93 (by decide) (fun h93 => ?_) (fun h93 => ?_)
                · refine v_bipush 7 C dX10_whyNotBlown_106 (by decide) ?_
                  refine v_goto 112 C dX10_whyNotBlown_108 (by decide) ?_
                  exact v_iret C dX10_whyNotBlown_112 ⟨by simp [whyF, *], rfl, rfl, rfl, rfl⟩
                · refine v_aload_n C dX10_whyNotBlown_96 rfl ?_
                  refine v_getI C fl_RX10_220 rfl (hs.1 0 _ rfl) dX10_whyNotBlown_97 ?_
                  refine v_sipush 1000 C dX10_whyNotBlown_100 (by decide) ?_
                  refine v_icmp_lt 111 C dX10_whyNotBlown_103 (by decide) (fun h103 => ?_) (fun h103 => ?_)
                  · refine v_iconst 0 C dX10_whyNotBlown_111 (by decide) ?_
                    exact v_iret C dX10_whyNotBlown_112 ⟨by simp [whyF, *], rfl, rfl, rfl, rfl⟩
                  · refine v_bipush 7 C dX10_whyNotBlown_106 (by decide) ?_
                    refine v_goto 112 C dX10_whyNotBlown_108 (by decide) ?_
                    exact v_iret C dX10_whyNotBlown_112 ⟨by simp [whyF, *], rfl, rfl, rfl, rfl⟩
              · refine v_bipush 6 C dX10_whyNotBlown_87 (by decide) ?_
                exact v_iret C dX10_whyNotBlown_89 ⟨by simp [whyF, *], rfl, rfl, rfl, rfl⟩
            · refine v_iconst 5 C dX10_whyNotBlown_72 (by decide) ?_
              exact v_iret C dX10_whyNotBlown_73 ⟨by simp [whyF, *], rfl, rfl, rfl, rfl⟩
          · refine v_aload_n C dX10_whyNotBlown_48 rfl ?_
            refine v_getI C fl_RX10_188 rfl hk dX10_whyNotBlown_49 ?_
            refine v_aload_n C dX10_whyNotBlown_52 rfl ?_
            refine v_getI C fl_RX10_165 rfl hp dX10_whyNotBlown_53 ?_
            refine v_icmp_eq 61 C dX10_whyNotBlown_56 (by decide) (fun h56 => ?_) (fun h56 => ?_)
            · refine v_aload_n C dX10_whyNotBlown_61 rfl ?_
              refine v_getI C fl_RX10_169 rfl hp dX10_whyNotBlown_62 ?_
              refine v_aload_n C dX10_whyNotBlown_65 rfl ?_
              refine v_getI C fl_RX10_179 rfl hk dX10_whyNotBlown_66 ?_
              refine v_icmp_ge 74 C dX10_whyNotBlown_69 (by decide) (fun h69 => ?_) (fun h69 => ?_)
              · refine v_aload_n C dX10_whyNotBlown_74 rfl ?_
                refine v_getR 37 C fl_RX10_58 rfl (hs.1 0 _ rfl) (hs.2 0 7 37 rfl) dX10_whyNotBlown_75 ?_
                refine v_iload_n C dX10_whyNotBlown_78 rfl ?_
                refine v_iaload j C (hs.1 37 _ rfl) hj dX10_whyNotBlown_79 ?_
                refine v_aload_n C dX10_whyNotBlown_80 rfl ?_
                refine v_getI C fl_RX10_182 rfl hk dX10_whyNotBlown_81 ?_
                refine v_icmp_ge 90 C dX10_whyNotBlown_84 (by decide) (fun h84 => ?_) (fun h84 => ?_)
                · refine v_iload C dX10_whyNotBlown_90 rfl ?_
                  refine v_iconst (-1) C dX10_whyNotBlown_92 (by decide) ?_
                  refine v_icmp_eq 106 C dX10_whyNotBlown_93 (by decide) (fun h93 => ?_) (fun h93 => ?_)
                  · refine v_bipush 7 C dX10_whyNotBlown_106 (by decide) ?_
                    refine v_goto 112 C dX10_whyNotBlown_108 (by decide) ?_
                    exact v_iret C dX10_whyNotBlown_112 ⟨by simp [whyF, *], rfl, rfl, rfl, rfl⟩
                  · refine v_aload_n C dX10_whyNotBlown_96 rfl ?_
                    refine v_getI C fl_RX10_220 rfl (hs.1 0 _ rfl) dX10_whyNotBlown_97 ?_
                    refine v_sipush 1000 C dX10_whyNotBlown_100 (by decide) ?_
                    refine v_icmp_lt 111 C dX10_whyNotBlown_103 (by decide) (fun h103 => ?_) (fun h103 => ?_)
                    · refine v_iconst 0 C dX10_whyNotBlown_111 (by decide) ?_
                      exact v_iret C dX10_whyNotBlown_112 ⟨by simp [whyF, *], rfl, rfl, rfl, rfl⟩
                    · refine v_bipush 7 C dX10_whyNotBlown_106 (by decide) ?_
                      refine v_goto 112 C dX10_whyNotBlown_108 (by decide) ?_
                      exact v_iret C dX10_whyNotBlown_112 ⟨by simp [whyF, *], rfl, rfl, rfl, rfl⟩
                · refine v_bipush 6 C dX10_whyNotBlown_87 (by decide) ?_
                  exact v_iret C dX10_whyNotBlown_89 ⟨by simp [whyF, *], rfl, rfl, rfl, rfl⟩
              · refine v_iconst 5 C dX10_whyNotBlown_72 (by decide) ?_
                exact v_iret C dX10_whyNotBlown_73 ⟨by simp [whyF, *], rfl, rfl, rfl, rfl⟩
            · refine v_iconst 4 C dX10_whyNotBlown_59 (by decide) ?_
              exact v_iret C dX10_whyNotBlown_60 ⟨by simp [whyF, *], rfl, rfl, rfl, rfl⟩
        · refine v_iconst 3 C dX10_whyNotBlown_38 (by decide) ?_
          exact v_iret C dX10_whyNotBlown_39 ⟨by simp [whyF, *], rfl, rfl, rfl, rfl⟩
      · refine v_iconst 2 C dX10_whyNotBlown_23 (by decide) ?_
        exact v_iret C dX10_whyNotBlown_24 ⟨by simp [whyF, *], rfl, rfl, rfl, rfl⟩
    · refine v_iconst 1 C dX10_whyNotBlown_14 (by decide) ?_
      exact v_iret C dX10_whyNotBlown_15 ⟨by simp [whyF, *], rfl, rfl, rfl, rfl⟩
