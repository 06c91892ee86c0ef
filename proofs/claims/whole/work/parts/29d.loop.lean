/-! ===== the law: its start and its loop ===== -/
theorem b48 : Blank (layL.take 47) initI zJ initR := by
  have hB : Blank (layL.take 47) zI zJ zR := fun a _ => ⟨fun _ => rfl, fun _ => rfl, fun _ => rfl⟩
  exact (((((((((((((((((((((((((((((((((((((((((((((((((((((((((((hB.iu (a := 18) (by decide)).iu (a := 18) (by decide)).iu (a := 19) (by decide)).iu (a := 19) (by decide)).iu (a := 20) (by decide)).iu (a := 20) (by decide)).iu (a := 21) (by decide)).iu (a := 21) (by decide)).iu (a := 22) (by decide)).iu (a := 22) (by decide)).iu (a := 23) (by decide)).iu (a := 23) (by decide)).fill (a := 37) (by decide)).ru (a := 1) (by decide)).ru (a := 1) (by decide)).ru (a := 0) (by decide)).ru (a := 4) (by decide)).ru (a := 4) (by decide)).ru (a := 4) (by decide)).ru (a := 0) (by decide)).ru (a := 8) (by decide)).ru (a := 8) (by decide)).ru (a := 8) (by decide)).ru (a := 8) (by decide)).ru (a := 8) (by decide)).ru (a := 0) (by decide)).ru (a := 14) (by decide)).ru (a := 14) (by decide)).ru (a := 0) (by decide)).ru (a := 0) (by decide)).ru (a := 17) (by decide)).ru (a := 17) (by decide)).ru (a := 17) (by decide)).ru (a := 17) (by decide)).ru (a := 17) (by decide)).ru (a := 17) (by decide)).ru (a := 0) (by decide)).ru (a := 24) (by decide)).ru (a := 24) (by decide)).ru (a := 24) (by decide)).ru (a := 24) (by decide)).ru (a := 24) (by decide)).ru (a := 0) (by decide)).ru (a := 31) (by decide)).ru (a := 30) (by decide)).ru (a := 33) (by decide)).ru (a := 30) (by decide)).ru (a := 35) (by decide)).ru (a := 30) (by decide)).ru (a := 0) (by decide)).ru (a := 0) (by decide)).ru (a := 39) (by decide)).ru (a := 39) (by decide)).ru (a := 0) (by decide)).ru (a := 42) (by decide)).ru (a := 42) (by decide)).ru (a := 42) (by decide)).ru (a := 42) (by decide)).ru (a := 0) (by decide))
theorem b91 : Blank layL (initIm initI) zJ (initRm initR) := by
  have hB := b48.grow (sh2 := layL) (by decide)
  exact (((((((((((((((((((((((((((((((((((((((((((((((((((((((((((hB.iu (a := 66) (by decide)).iu (a := 66) (by decide)).iu (a := 66) (by decide)).iu (a := 66) (by decide)).iu (a := 53) (by decide)).iu (a := 53) (by decide)).iu (a := 53) (by decide)).iu (a := 53) (by decide)).iu (a := 53) (by decide)).iu (a := 53) (by decide)).iu (a := 85) (by decide)).iu (a := 85) (by decide)).iu (a := 85) (by decide)).iu (a := 85) (by decide)).iu (a := 85) (by decide)).iu (a := 85) (by decide)).iu (a := 85) (by decide)).ru (a := 47) (by decide)).ru (a := 47) (by decide)).ru (a := 47) (by decide)).ru (a := 47) (by decide)).ru (a := 47) (by decide)).ru (a := 47) (by decide)).ru (a := 47) (by decide)).ru (a := 47) (by decide)).ru (a := 47) (by decide)).ru (a := 47) (by decide)).ru (a := 47) (by decide)).ru (a := 47) (by decide)).ru (a := 47) (by decide)).ru (a := 47) (by decide)).ru (a := 47) (by decide)).ru (a := 47) (by decide)).ru (a := 47) (by decide)).ru (a := 47) (by decide)).ru (a := 47) (by decide)).ru (a := 47) (by decide)).ru (a := 47) (by decide)).ru (a := 47) (by decide)).ru (a := 47) (by decide)).ru (a := 47) (by decide)).ru (a := 47) (by decide)).ru (a := 47) (by decide)).ru (a := 47) (by decide)).ru (a := 47) (by decide)).ru (a := 47) (by decide)).ru (a := 47) (by decide)).ru (a := 47) (by decide)).ru (a := 47) (by decide)).ru (a := 47) (by decide)).ru (a := 47) (by decide)).ru (a := 47) (by decide)).ru (a := 47) (by decide)).ru (a := 47) (by decide)).ru (a := 47) (by decide)).ru (a := 47) (by decide)).ru (a := 47) (by decide)).ru (a := 47) (by decide)).ru (a := 47) (by decide))
theorem ptr_tab : (List.range 90).all (fun a => (List.range 60).all (fun k => match ptr a k with | none => true | some b => decide (initRm initR a k = some b))) = true := by decide +kernel
theorem ptr_row : ptrT.all (fun r => decide (r.length ≤ 60)) = true := by decide +kernel
theorem st_start : St layL (initRm initR) := by
  refine ⟨fun a x h => h, fun a k b hb => ?_⟩
  have hb0 := hb
  unfold ptr at hb
  have ha : a < 90 := by
    rcases Nat.lt_or_ge a 90 with q | q
    · exact q
    · rw [List.getElem?_eq_none (by exact q)] at hb
      cases hb
  have hk : k < 60 := by
    cases hr : ptrT[a]? with
    | none => rw [hr] at hb; cases hb
    | some r =>
      have hm := List.mem_of_getElem? hr
      have hl := of_decide_eq_true (List.all_eq_true.mp ptr_row r hm)
      rcases Nat.lt_or_ge k r.length with q | q
      · omega
      · rw [hr] at hb
        have e : r[k]? = none := List.getElem?_eq_none q
        simp [e] at hb
  have h1 := List.all_eq_true.mp ptr_tab a (List.mem_range.mpr ha)
  have h2 := List.all_eq_true.mp h1 k (List.mem_range.mpr hk)
  simp only [hb0] at h2
  exact of_decide_eq_true h2
theorem row67 : initIm initI 66 = initIm initI 37 := by
  funext j
  by_cases g : j < 4
  · rcases (show j = 0 ∨ j = 1 ∨ j = 2 ∨ j = 3 by omega) with rfl | rfl | rfl | rfl <;> rfl
  · have h0 : ¬ j = 0 := by omega
    have h1 : ¬ j = 1 := by omega
    have h2 : ¬ j = 2 := by omega
    have h3 : ¬ j = 3 := by omega
    simp [initIm, initI, iu_ap, fillF, zI, g, h0, h1, h2, h3]
theorem rel_start : Rel layL (initIm initI) zJ (initRm initR) 0 := by
  refine ⟨⟨st_start, Or.inl ⟨rfl, rfl⟩, b91⟩, ⟨⟨0, by decide, rfl, rfl⟩, ⟨0, by decide, rfl, rfl⟩, ⟨0, by decide, rfl, rfl⟩, ⟨0, by decide, rfl, rfl⟩, rfl, rfl, ⟨0, by decide, rfl, rfl⟩, ⟨0, by decide, rfl, rfl⟩⟩, ⟨rfl, rfl, rfl, rfl, rfl, row67⟩, fun k hk => ?_, fun k hk => ?_, ⟨⟨0, by decide, rfl, rfl⟩, fun k => ⟨0, by decide, rfl, ?_⟩, ⟨0, by decide, rfl, rfl⟩, rfl, rfl⟩, Or.inl ⟨rfl, fun k hk => ?_⟩, ⟨fun s y _ _ => rfl, rfl, ⟨0, by decide, rfl, rfl⟩, rfl⟩, 0, id, Nat.le_refl 0, rfl, rfl, fun k hk => absurd hk (Nat.not_lt_zero _), fun j k hj => absurd hj (Nat.not_lt_zero _), fun b hb => ?_, fun k hk => absurd hk (Nat.not_lt_zero _)⟩
  · rcases (show k = 0 ∨ k = 1 ∨ k = 2 ∨ k = 3 ∨ k = 4 by omega) with rfl | rfl | rfl | rfl | rfl
    all_goals
      refine ⟨fun f hf => ?_, Or.inl rfl⟩
      rcases (show f = 0 ∨ f = 1 ∨ f = 2 ∨ f = 3 ∨ f = 4 ∨ f = 5 ∨ f = 6 ∨ f = 7 by omega) with rfl | rfl | rfl | rfl | rfl | rfl | rfl | rfl <;> rfl
  · rcases (show k = 0 ∨ k = 1 ∨ k = 2 ∨ k = 3 ∨ k = 4 ∨ k = 5 by omega) with rfl | rfl | rfl | rfl | rfl | rfl <;> exact ⟨rfl, Or.inl rfl⟩
  · show (0 : Int32) = _
    decide
  · rcases (show k = 0 ∨ k = 1 ∨ k = 2 ∨ k = 3 ∨ k = 4 ∨ k = 5 ∨ k = 6 by omega) with rfl | rfl | rfl | rfl | rfl | rfl | rfl <;> rfl
  · rcases (show b = 0 ∨ b = 1 ∨ b = 2 by omega) with rfl | rfl | rfl
    all_goals exact ⟨⟨rfl, Nat.zero_le _, fun j hj => absurd hj (Nat.not_lt_zero _), fun p hp => absurd hp List.not_mem_nil⟩, rfl⟩

set_option maxHeartbeats 4000000 in
set_option maxRecDepth 100000 in
theorem law_loop {E : En} {X : Ctx} {nm : String} {b L : Nat} {sc : Nat → Int32} (C : Cx E X RL code 4 ret nm room_1) (hX : va_X b L sc (xs X) (xs X).heap) (hbl : b < (xs X).heap.size) (hbE : b < e_b E) (hXa : xa X = #[Value.ref b]) (hE : e_b E = (xs X).heap.size) (hL : L ≤ 4096) : ∀ (fuel c g : Nat) (sh : List Sh) (I : IM) (J : JM) (R : RM), 512 < c + fuel → c ≤ 512 → Rel sh I J R c → GF R g → V E X (lw_Z (xb X) #[Value.ref b] (xs X)) (90 + 2 * g + c) (1457153 + 9 * c + 49062 * g) sh I J R 18 [some (.retAddr b), some (.ref 0), some (.ref 47), some (.int (nI (8 * c)))] [] := by
  intro fuel
  induction fuel with
  | zero => intro c g sh I J R h1 h2; omega
  | succ fuel ih =>
    intro c g sh I J R hf hc h hg
    have hg1 := hg.le
    refine v_iload_n C dL_law_18 rfl ?_
    refine v_aloadS C dL_law_19 rfl ?_
    refine v_slen C hX hbl hbE dL_law_20 ?_
    refine v_bipush 8 C dL_law_21 (by decide) ?_
    refine v_isub C dL_law_23 ?_
    refine v_icmp_gt 983 C dL_law_24 (by decide) (fun h24 => ?_) (fun h24 => ?_)
    · refine v_iconst 1 C dL_law_983 (by decide) ?_
      exact lw_end C hXa hE (by omega) (by omega) dL_law_984
    · have hcL := lt_L hL h24 (by omega)
      have next : NX E X (lw_Z (xb X) #[Value.ref b] (xs X)) b c := fun sh I J R g h hg => ih (c + 1) g sh I J R (by omega) (by omega) h hg
      refine v_aloadS C dL_law_27 rfl ?_
      refine v_iload_n C dL_law_28 rfl ?_
      refine v_sld (8 * c) C hX hbl hbE (at_nI (by omega) (by omega)) dL_law_29 ?_
      refine v_bipush 31 C dL_law_30 (by decide) ?_
      refine v_iand C dL_law_32 ?_
      rcases sw_split (sc (8 * c) &&& 31) 24 (by decide) with hsw | ⟨jsw, hjsw, hxsw⟩
      · refine v_tableOut 977 C dL_law_33 (sw_out hsw) (by decide) ?_
        refine v_iinc (nI (8 * (c + 1))) C dL_law_977 rfl (inc8 c) (Nat.le_of_ble_eq_true rfl) rfl ?_
        refine v_goto 18 C dL_law_980 (by decide) ?_
        exact v_widen (by omega) (by omega) (next _ _ _ _ g h.mono hg)
      · rcases (show jsw = 0 ∨ jsw = 1 ∨ jsw = 2 ∨ jsw = 3 ∨ jsw = 4 ∨ jsw = 5 ∨ jsw = 6 ∨ jsw = 7 ∨ jsw = 8 ∨ jsw = 9 ∨ jsw = 10 ∨ jsw = 11 ∨ jsw = 12 ∨ jsw = 13 ∨ jsw = 14 ∨ jsw = 15 ∨ jsw = 16 ∨ jsw = 17 ∨ jsw = 18 ∨ jsw = 19 ∨ jsw = 20 ∨ jsw = 21 ∨ jsw = 22 ∨ jsw = 23 ∨ jsw = 24 by omega) with hj | hj | hj | hj | hj | hj | hj | hj | hj | hj | hj | hj | hj | hj | hj | hj | hj | hj | hj | hj | hj | hj | hj | hj | hj
        · have hxe : sc (8 * c) &&& 31 = 0 := by rw [hxsw, hj]; rfl
          refine v_tableIn 148 C dL_law_33 (by rw [hxe]; decide) (by rw [hxe]; decide) (by rw [hxe]; rfl) (by decide) ?_
          exact lc_right C hX hbl hbE h hg hcL hL next
        · have hxe : sc (8 * c) &&& 31 = 1 := by rw [hxsw, hj]; rfl
          refine v_tableIn 181 C dL_law_33 (by rw [hxe]; decide) (by rw [hxe]; decide) (by rw [hxe]; rfl) (by decide) ?_
          exact lc_cut C hX hbl hbE h hg hcL hL next
        · have hxe : sc (8 * c) &&& 31 = 2 := by rw [hxsw, hj]; rfl
          refine v_tableIn 204 C dL_law_33 (by rw [hxe]; decide) (by rw [hxe]; decide) (by rw [hxe]; rfl) (by decide) ?_
          exact lc_rate C hX hbl hbE h hg hcL hL next
        · have hxe : sc (8 * c) &&& 31 = 3 := by rw [hxsw, hj]; rfl
          refine v_tableIn 227 C dL_law_33 (by rw [hxe]; decide) (by rw [hxe]; decide) (by rw [hxe]; rfl) (by decide) ?_
          exact lc_cold C hX hbl hbE h hg hcL hL next
        · have hxe : sc (8 * c) &&& 31 = 4 := by rw [hxsw, hj]; rfl
          refine v_tableIn 270 C dL_law_33 (by rw [hxe]; decide) (by rw [hxe]; decide) (by rw [hxe]; rfl) (by decide) ?_
          exact lc_go C hX hbl hbE h hg hcL hL next
        · have hxe : sc (8 * c) &&& 31 = 5 := by rw [hxsw, hj]; rfl
          refine v_tableIn 293 C dL_law_33 (by rw [hxe]; decide) (by rw [hxe]; decide) (by rw [hxe]; rfl) (by decide) ?_
          exact lc_feed C hX hbl hbE h hg hcL hL next
        · have hxe : sc (8 * c) &&& 31 = 6 := by rw [hxsw, hj]; rfl
          refine v_tableIn 356 C dL_law_33 (by rw [hxe]; decide) (by rw [hxe]; decide) (by rw [hxe]; rfl) (by decide) ?_
          exact lc_end C hX hbl hbE h hg hcL hL next
        · have hxe : sc (8 * c) &&& 31 = 7 := by rw [hxsw, hj]; rfl
          refine v_tableIn 379 C dL_law_33 (by rw [hxe]; decide) (by rw [hxe]; decide) (by rw [hxe]; rfl) (by decide) ?_
          exact lc_spans C hX hbl hbE h hg hcL hL next
        · have hxe : sc (8 * c) &&& 31 = 8 := by rw [hxsw, hj]; rfl
          refine v_tableIn 392 C dL_law_33 (by rw [hxe]; decide) (by rw [hxe]; decide) (by rw [hxe]; rfl) (by decide) ?_
          exact lc_lay C hX hbl hbE h hg hcL hL next
        · have hxe : sc (8 * c) &&& 31 = 9 := by rw [hxsw, hj]; rfl
          refine v_tableIn 445 C dL_law_33 (by rw [hxe]; decide) (by rw [hxe]; decide) (by rw [hxe]; rfl) (by decide) ?_
          exact lc_buy C hX hbl hbE h hg hcL hL next
        · have hxe : sc (8 * c) &&& 31 = 10 := by rw [hxsw, hj]; rfl
          refine v_tableIn 468 C dL_law_33 (by rw [hxe]; decide) (by rw [hxe]; decide) (by rw [hxe]; rfl) (by decide) ?_
          exact lc_drop C hX hbl hbE h hg hcL hL next
        · have hxe : sc (8 * c) &&& 31 = 11 := by rw [hxsw, hj]; rfl
          refine v_tableIn 491 C dL_law_33 (by rw [hxe]; decide) (by rw [hxe]; decide) (by rw [hxe]; rfl) (by decide) ?_
          exact lc_kind C hX hbl hbE h hg hcL hL next
        · have hxe : sc (8 * c) &&& 31 = 12 := by rw [hxsw, hj]; rfl
          refine v_tableIn 578 C dL_law_33 (by rw [hxe]; decide) (by rw [hxe]; decide) (by rw [hxe]; rfl) (by decide) ?_
          exact lc_blow C hX hbl hbE h hg hcL hL next
        · have hxe : sc (8 * c) &&& 31 = 13 := by rw [hxsw, hj]; rfl
          refine v_tableIn 621 C dL_law_33 (by rw [hxe]; decide) (by rw [hxe]; decide) (by rw [hxe]; rfl) (by decide) ?_
          exact lc_open C hX hbl hbE h hg hcL hL next
        · have hxe : sc (8 * c) &&& 31 = 14 := by rw [hxsw, hj]; rfl
          refine v_tableIn 644 C dL_law_33 (by rw [hxe]; decide) (by rw [hxe]; decide) (by rw [hxe]; rfl) (by decide) ?_
          exact lc_pass C hX hbl hbE h hg hcL hL next
        · have hxe : sc (8 * c) &&& 31 = 15 := by rw [hxsw, hj]; rfl
          refine v_tableIn 667 C dL_law_33 (by rw [hxe]; decide) (by rw [hxe]; decide) (by rw [hxe]; rfl) (by decide) ?_
          exact lc_pot C hX hbl hbE h hg hcL hL next
        · have hxe : sc (8 * c) &&& 31 = 16 := by rw [hxsw, hj]; rfl
          refine v_tableIn 700 C dL_law_33 (by rw [hxe]; decide) (by rw [hxe]; decide) (by rw [hxe]; rfl) (by decide) ?_
          exact lc_piece C hX hbl hbE h hg hcL hL next
        · have hxe : sc (8 * c) &&& 31 = 17 := by rw [hxsw, hj]; rfl
          refine v_tableIn 733 C dL_law_33 (by rw [hxe]; decide) (by rw [hxe]; decide) (by rw [hxe]; rfl) (by decide) ?_
          exact lc_pay C hX hbl hbE h hg hcL hL next
        · have hxe : sc (8 * c) &&& 31 = 18 := by rw [hxsw, hj]; rfl
          refine v_tableIn 756 C dL_law_33 (by rw [hxe]; decide) (by rw [hxe]; decide) (by rw [hxe]; rfl) (by decide) ?_
          exact lc_shift C hX hbl hbE h hg hcL hL next
        · have hxe : sc (8 * c) &&& 31 = 19 := by rw [hxsw, hj]; rfl
          refine v_tableIn 799 C dL_law_33 (by rw [hxe]; decide) (by rw [hxe]; decide) (by rw [hxe]; rfl) (by decide) ?_
          exact lc_shifted C hX hbl hbE h hg hcL hL next
        · have hxe : sc (8 * c) &&& 31 = 20 := by rw [hxsw, hj]; rfl
          refine v_tableIn 822 C dL_law_33 (by rw [hxe]; decide) (by rw [hxe]; decide) (by rw [hxe]; rfl) (by decide) ?_
          exact lc_cost C hX hbl hbE h hg hcL hL next
        · have hxe : sc (8 * c) &&& 31 = 21 := by rw [hxsw, hj]; rfl
          refine v_tableIn 865 C dL_law_33 (by rw [hxe]; decide) (by rw [hxe]; decide) (by rw [hxe]; rfl) (by decide) ?_
          exact lc_way C hX hbl hbE h hg hcL hL next
        · have hxe : sc (8 * c) &&& 31 = 22 := by rw [hxsw, hj]; rfl
          refine v_tableIn 908 C dL_law_33 (by rw [hxe]; decide) (by rw [hxe]; decide) (by rw [hxe]; rfl) (by decide) ?_
          exact lc_move C hX hbl hbE h hg hcL hL next
        · have hxe : sc (8 * c) &&& 31 = 23 := by rw [hxsw, hj]; rfl
          refine v_tableIn 931 C dL_law_33 (by rw [hxe]; decide) (by rw [hxe]; decide) (by rw [hxe]; rfl) (by decide) ?_
          exact lc_moved C hX hbl hbE h hg hcL hL next
        · have hxe : sc (8 * c) &&& 31 = 24 := by rw [hxsw, hj]; rfl
          refine v_tableIn 954 C dL_law_33 (by rw [hxe]; decide) (by rw [hxe]; decide) (by rw [hxe]; rfl) (by decide) ?_
          exact lc_count C hX hbl hbE h hg hcL hL next

set_option maxHeartbeats 4000000 in
set_option maxRecDepth 100000 in
theorem law_start {E : En} {X : Ctx} {nm : String} {b L : Nat} {sc : Nat → Int32} (C : Cx E X RL code 4 ret nm room_1) (hX : va_X b L sc (xs X) (xs X).heap) (hbl : b < (xs X).heap.size) (hbE : b < e_b E) (hXa : xa X = #[Value.ref b]) (hE : e_b E = (xs X).heap.size) (hL : L ≤ 4096) : V E X (lw_Z (xb X) #[Value.ref b] (xs X)) 0 0 [] zI zJ zR 0 [some (.retAddr b), none, none, none] [] := by
  have hB : Blank [] zI zJ zR := fun a _ => ⟨fun _ => rfl, fun _ => rfl, fun _ => rfl⟩
  refine v_newA (ci := 10) 0 (layL.take 1) rfl rfl hB C rfl cl_RL_7 ins_RX10 ini_RX10 (Nat.le_of_ble_eq_true rfl) (Nat.le_of_ble_eq_true rfl) dL_law_0 ?_
  have hB := hB.grow (sh2 := layL.take 1) (by decide)
  refine v_dupr C dL_law_3 ?_
  refine v_callIv C (c_X10_init hB) mt_X10_init lk_RL_9 rfl rfl rfl rfl rfl dL_law_4 ?_
  refine v_astore_n C dL_law_7 (Nat.le_of_ble_eq_true rfl) rfl ?_
  refine v_newA (ci := 11) 47 (layL.take 48) rfl rfl b48 C rfl cl_RL_10 ins_RX11 ini_RX11 (Nat.le_of_ble_eq_true rfl) (Nat.le_of_ble_eq_true rfl) dL_law_8 ?_
  have hB := b48.grow (sh2 := layL.take 48) (by decide)
  refine v_dupr C dL_law_11 ?_
  refine v_callIv C (c_X11_init hB) mt_X11_init lk_RL_12 rfl rfl rfl rfl rfl dL_law_12 ?_
  refine v_astore_n C dL_law_15 (Nat.le_of_ble_eq_true rfl) rfl ?_
  refine v_iconst 0 C dL_law_16 (by decide) ?_
  refine v_istore_n C dL_law_17 (Nat.le_of_ble_eq_true rfl) rfl ?_
  exact law_loop C hX hbl hbE hXa hE hL 513 0 0 layL (initIm initI) zJ (initRm initR) (by decide) (by decide) rel_start (Or.inl ⟨rfl, rfl, rfl⟩)
