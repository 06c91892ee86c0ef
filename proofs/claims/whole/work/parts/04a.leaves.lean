set_option maxHeartbeats 4000000 in
set_option maxRecDepth 100000 in
theorem c_X10_within {l : Launch} {E : En} {sh : List Sh} {I : IM} {J : JM} {R : RM} {x lo hi : Int32} : Ct l E yX10_within cX10_within 3 (some .boolean) 0 0 [.int x, .int lo, .int hi] sh I J R 0 0 (m_ret (some (.int (wI x lo hi))) sh I J R) := by
  refine Ct.of (lv := [some (.int x), some (.int lo), some (.int hi)]) (by decide) (Nat.le_of_ble_eq_true rfl) rfl (fun X hX C => ?_)
  refine v_iload_n C dX10_within_0 rfl ?_
  refine v_iload_n C dX10_within_1 rfl ?_
  refine v_icmp_lt 14 C dX10_within_2 (by decide) (fun h2 => ?_) (fun h2 => ?_)
  · refine v_iconst 0 C dX10_within_14 (by decide) ?_
    exact v_zret C (Or.inl rfl) dX10_within_15 ⟨by simp [wI, *], rfl, rfl, rfl, rfl⟩
  · refine v_iload_n C dX10_within_5 rfl ?_
    refine v_iload_n C dX10_within_6 rfl ?_
    refine v_icmp_gt 14 C dX10_within_7 (by decide) (fun h7 => ?_) (fun h7 => ?_)
    · refine v_iconst 0 C dX10_within_14 (by decide) ?_
      exact v_zret C (Or.inl rfl) dX10_within_15 ⟨by simp [wI, *], rfl, rfl, rfl, rfl⟩
    · refine v_iconst 1 C dX10_within_10 (by decide) ?_
      refine v_goto 15 C dX10_within_11 (by decide) ?_
      exact v_zret C (Or.inr rfl) dX10_within_15 ⟨by simp [wI, *], rfl, rfl, rfl, rfl⟩

set_option maxHeartbeats 4000000 in
set_option maxRecDepth 100000 in
theorem c_X11_in {l : Launch} {E : En} {sh : List Sh} {I : IM} {J : JM} {R : RM} {x lo hi : Int32} : Ct l E yX11_in cX11_in 3 (some .boolean) 0 0 [.int x, .int lo, .int hi] sh I J R 0 0 (m_ret (some (.int (wI x lo hi))) sh I J R) := by
  refine Ct.of (lv := [some (.int x), some (.int lo), some (.int hi)]) (by decide) (Nat.le_of_ble_eq_true rfl) rfl (fun X hX C => ?_)
  refine v_iload_n C dX11_in_0 rfl ?_
  refine v_iload_n C dX11_in_1 rfl ?_
  refine v_icmp_lt 14 C dX11_in_2 (by decide) (fun h2 => ?_) (fun h2 => ?_)
  · refine v_iconst 0 C dX11_in_14 (by decide) ?_
    exact v_zret C (Or.inl rfl) dX11_in_15 ⟨by simp [wI, *], rfl, rfl, rfl, rfl⟩
  · refine v_iload_n C dX11_in_5 rfl ?_
    refine v_iload_n C dX11_in_6 rfl ?_
    refine v_icmp_gt 14 C dX11_in_7 (by decide) (fun h7 => ?_) (fun h7 => ?_)
    · refine v_iconst 0 C dX11_in_14 (by decide) ?_
      exact v_zret C (Or.inl rfl) dX11_in_15 ⟨by simp [wI, *], rfl, rfl, rfl, rfl⟩
    · refine v_iconst 1 C dX11_in_10 (by decide) ?_
      refine v_goto 15 C dX11_in_11 (by decide) ?_
      exact v_zret C (Or.inr rfl) dX11_in_15 ⟨by simp [wI, *], rfl, rfl, rfl, rfl⟩
