set_option maxHeartbeats 4000000 in
set_option maxRecDepth 100000 in
theorem c_X8_planG {lnc : Launch} {E : En} {sh : List Sh} {I : IM} {J : JM} {R : RM} {c : Int32} {K : Kd} {M G : Nat} (hs : St sh R) (hn0 : R 39 0 = none) (hn1 : R 39 1 = none) (hu : ∃ k, k < 5 ∧ K.u k = true) (hB : Blank sh I J R) (hK : KC I c K) (hM : M ≤ 480) (hG : G ≤ 500) : Ct lnc E yX8_plan cX8_plan 8 (some .int) 2 58 [.ref 39, .ref 24, .int (nI M), .int (nI G), .int c] sh I J R 2 49062 (shQ (sh ++ [.inr (1, 24531)] ++ [.inr (1, 24531)]) I (ru (ru R 39 0 (some sh.length)) 39 1 (some (sh.length + 1))) K M G) := by
  refine Ct.of (lv := [some (.ref 39), some (.ref 24), some (.int (nI M)), some (.int (nI G)), some (.int c), none, none, none]) (by decide) (Nat.le_of_ble_eq_true rfl) rfl (fun X hX C => ?_)
  have fin : ∀ (sh1 : List Sh) (I1 : IM) (J1 : JM) (R1 : RM) (x : Nat → Nat), St sh1 R1 → Blank sh1 I1 J1 R1 → sh1 = (sh ++ [.inr (1, 24531)] ++ [.inr (1, 24531)]) → R1 = (ru (ru R 39 0 (some sh.length)) 39 1 (some (sh.length + 1))) → Lx K 0 M G x → (∀ a, a < 39 ∨ 41 < a → I1 a = I a) → V E X (m_Z E X (shQ (sh ++ [.inr (1, 24531)] ++ [.inr (1, 24531)]) I (ru (ru R 39 0 (some sh.length)) 39 1 (some (sh.length + 1))) K M G) 2 49062) 2 49062 sh1 I1 J1 R1 89 [some (.ref 39), some (.ref 24), some (.int (nI M)), some (.int (nI G)), some (.int c), some (.long (lN (pS p9 x 5))), none, none] [] := by
    intro sh1 I1 J1 R1 x hs hB hg1 hg2 hx hI1
    refine v_aload_n C dX8_plan_89 rfl ?_
    refine v_iconst 1 C dX8_plan_90 (by decide) ?_
    refine v_putZ C fl_RX8_37 rfl (Or.inr rfl) (hs.1 39 _ rfl) dX8_plan_91 ?_
    refine v_aload_n C dX8_plan_94 rfl ?_
    refine v_aload_n C dX8_plan_95 rfl ?_
    refine v_lload C dX8_plan_96 rfl ?_
    refine v_callV C (c_X8_keep (y := lN (pS p9 x 5)) hs) mt_X8_keep lk_RX8_41 rfl rfl (hs.1 39 _ rfl) rfl rfl rfl (Nat.le_of_ble_eq_true rfl) (rmB_ok rfl) dX8_plan_98 ?_
    intro v sh2 I2 J2 R2 hQ
    obtain ⟨rfl, rfl, rfl, rfl, q1, q2, q3, q4, q5⟩ := hQ
    exact v_iret C dX8_plan_101 (by
      have hKi : KC (iu I1 39 5 1) c K := hK.o (fun a h1 h2 => by rw [iu_ne a (by omega)]; exact hI1 a (by omega))
      have hx5 : ∀ c, x c < 512 := fun c => by have := hx.1.xb c; omega
      have hxu : ∀ c, x c ≠ 0 → K.u c = true := fun c hc => (hx.1.1 c hc).2.2
      refine ⟨x, hx, ?_, hg1, hg2, ?_, ?_, ?_, ?_, ?_, ?_⟩
      · rw [kpM_x hKi hx5 hxu 3 K.p (fun k hk hu => ((hKi k hk).2 hu).2.2) 5 (by decide)]
      · have := hs.len
        exact hB.of (fun a ha => by rw [q1 a (by omega) (by omega), iu_ne a (by omega)]) (fun _ _ => rfl) (fun _ _ => rfl)
      · intro a ha
        rw [q1 a (by omega) (by omega), iu_ne a (by omega)]
        exact hI1 a ha
      · rw [q2 5 (by decide)]; exact iu_same
      · rw [q3, kpM_x hKi hx5 hxu 2 K.mi (fun k hk hu => ((hKi k hk).2 hu).2.1) 5 (by decide)]
      · rw [q4, kpM_x hKi hx5 hxu 1 K.w (fun k hk hu => ((hKi k hk).2 hu).1) 5 (by decide)]
      · intro k hk
        rw [q5 k hk, kpF_x hx5 hk])
  have rest : ∀ (sh1 : List Sh) (I1 : IM) (J1 : JM) (R1 : RM) (W N : Nat) (q : Nat → Nat) (U : Nat), St sh1 R1 → R1 39 0 = some W → R1 39 1 = some N → W ≠ N → sh1[W]? = some (.inr (1, 24531)) → sh1[N]? = some (.inr (1, 24531)) → Blank sh1 I1 J1 R1 → sh1 = (sh ++ [.inr (1, 24531)] ++ [.inr (1, 24531)]) → R1 = (ru (ru R 39 0 (some sh.length)) 39 1 (some (sh.length + 1))) → UQ I1 K q U → (∀ a, a < 39 ∨ 41 < a → I1 a = I a) → V E X (m_Z E X (shQ (sh ++ [.inr (1, 24531)] ++ [.inr (1, 24531)]) I (ru (ru R 39 0 (some sh.length)) 39 1 (some (sh.length + 1))) K M G) 2 49062) 2 49062 sh1 I1 J1 R1 49 [some (.ref 39), some (.ref 24), some (.int (nI M)), some (.int (nI G)), some (.int c), some (.long 0), none, none] [] := by
    intro sh1 I1 J1 R1 W N q U hs hW0 hN0 hWN hW hN hB hg1 hg2 hU hI1
    have loop : ∀ (fuel : Nat) (m g : Nat) (J1 : JM), m < fuel → g + m = G + 1 → Blank sh1 I1 J1 R1 → GRows K J1 W N M g 51 → V E X (m_Z E X (shQ (sh ++ [.inr (1, 24531)] ++ [.inr (1, 24531)]) I (ru (ru R 39 0 (some sh.length)) 39 1 (some (sh.length + 1))) K M G) 2 49062) 2 49062 sh1 I1 J1 R1 52 [some (.ref 39), some (.ref 24), some (.int (nI M)), some (.int (nI G)), some (.int c), some (.long 0), none, some (.int (nI g))] [] := by
      intro fuel
      induction fuel with
      | zero => intro m g J1 hfuel; exact absurd hfuel (Nat.not_lt_zero _)
      | succ fuel ih =>
        intro m g J1 hfuel hk hB hR
        refine v_iload C dX8_plan_52 rfl ?_
        refine v_iload_n C dX8_plan_54 rfl ?_
        refine v_icmp_gt 72 C dX8_plan_55 (by decide) (fun h55 => ?_) (fun h55 => ?_)
        · have hgn : G < g := (nI_ltI (by omega) (by omega)).mp h55
          obtain rfl : g = G + 1 := by omega
          obtain ⟨x, hx, hxW, hxN⟩ := hR G (by omega) (by omega) M (Nat.le_refl _)
          refine v_aload_n C dX8_plan_72 rfl ?_
          refine v_getR N C fl_RX8_30 rfl (hs.1 39 _ rfl) hN0 dX8_plan_73 ?_
          refine v_iload_n C dX8_plan_76 rfl ?_
          refine v_bipush 51 C dX8_plan_77 (by decide) ?_
          refine v_irem C dX8_plan_79 (by decide) ?_
          refine v_eqi (pk_rem (d := 51) (by omega) (by decide) (by decide)) ?_
          refine v_sipush 481 C dX8_plan_80 (by decide) ?_
          refine v_imul C dX8_plan_83 ?_
          refine v_eqi (pk_mul _ 481) ?_
          refine v_iload_n C dX8_plan_84 rfl ?_
          refine v_iadd C dX8_plan_85 ?_
          refine v_eqi (nI_add _ _) ?_
          refine v_laload (G % 51 * 481 + M) C hN (at_nI (by omega) (by decide)) dX8_plan_86 ?_
          refine v_eql (show _ = lN (pS p9 x 5) from hxN) ?_
          refine v_lstore C dX8_plan_87 (Nat.le_of_ble_eq_true rfl) rfl ?_
          refine v_drop 7 ?_
          exact fin sh1 I1 J1 R1 x hs hB hg1 hg2 hx hI1
        · have hgn : g ≤ G := nI_nlt2 h55 (by omega)
          obtain ⟨m, rfl⟩ : ∃ m2, m = m2 + 1 := ⟨m - 1, by omega⟩
          refine v_aload_n C dX8_plan_58 rfl ?_
          refine v_aload_n C dX8_plan_59 rfl ?_
          refine v_iload C dX8_plan_60 rfl ?_
          refine v_iload_n C dX8_plan_62 rfl ?_
          refine v_callV C (c_X8_fillRow (c := c) (K := K) (q := q) (W := W) (N := N) (U := U) (M := M) (j := g) hs hW0 hN0 hW hN hWN (hK.o (fun a h1 h2 => hI1 a (by omega))) hU (by omega) hM hR) mt_X8_fillRow lk_RX8_33 rfl rfl (hs.1 39 _ rfl) rfl rfl rfl (Nat.le_of_ble_eq_true rfl) (rmB_ok rfl) dX8_plan_63 ?_
          intro v sh2 I2 J2 R2 hQ
          obtain ⟨rfl, e2, e3, e4, q5, q6⟩ := hQ
          obtain rfl := e2.symm
          obtain rfl := e3.symm
          obtain rfl := e4.symm
          refine v_iinc (nI (g + 1)) C dX8_plan_66 rfl (nI_1 g) (Nat.le_of_ble_eq_true rfl) rfl ?_
          refine v_goto 52 C dX8_plan_69 (by decide) ?_
          exact ih m (g + 1) _ (lt_fuel hfuel) (by omega) (hB.of (fun _ _ => rfl) (fun a ha => q5 a (by have := sh_lt hW; omega) (by have := sh_lt hN; omega)) (fun _ _ => rfl)) q6
    refine v_iconst 0 C dX8_plan_49 (by decide) ?_
    refine v_istore C dX8_plan_50 (Nat.le_of_ble_eq_true rfl) rfl ?_
    exact loop (G + 2) (G + 1) 0 _ (Nat.lt_succ_self _) (by omega) hB (fun g hg => absurd hg (Nat.not_lt_zero _))
  refine v_aload_n C dX8_plan_0 rfl ?_
  refine v_aload_n C dX8_plan_1 rfl ?_
  refine v_iload C dX8_plan_2 rfl ?_
  refine v_callV C (c_X8_findUsable hs hK) mt_X8_findUsable lk_RX8_18 rfl rfl (hs.1 39 _ rfl) rfl rfl rfl (Nat.le_of_ble_eq_true rfl) (rmB_ok rfl) dX8_plan_4 ?_
  intro v sh1 I1 J1 R1 hQ
  obtain ⟨e1, e2, e3, e4, q, U, hF⟩ := hQ
  obtain rfl := e2.symm
  obtain rfl := e3.symm
  obtain rfl := e4.symm
  subst e1
  have hU : UQ I1 K q U := hF.2
  have hI1 : ∀ a, a < 39 ∨ 41 < a → I1 a = I a := fun a ha => hF.1 a (by omega) (by omega)
  have hBl : Blank sh I1 J R := hB.of (fun a ha => hF.1 a (by have := hs.len; omega) (by have := hs.len; omega)) (fun _ _ => rfl) (fun _ _ => rfl)
  have hU5 := hU.2.1.1
  refine v_lconst 0 C dX8_plan_7 (by decide) ?_
  refine v_lstore C dX8_plan_8 (Nat.le_of_ble_eq_true rfl) rfl ?_
  refine v_aload_n C dX8_plan_10 rfl ?_
  refine v_getI C fl_RX8_22 rfl (hs.1 39 _ rfl) dX8_plan_11 ?_
  refine v_eqi (show _ = nI U from hU.1) ?_
  refine v_if_le 89 C dX8_plan_14 (by decide) (fun h14 => ?_) (fun h14 => ?_)
  · obtain rfl : U = 0 := by have := (nI_leI (b := 0) (by omega) (by decide)).mp h14; omega
    obtain ⟨k, hk5, hku⟩ := hu
    obtain ⟨s, hs0, _⟩ := hU.2.1.2.2.2 k hk5 hku
    exact absurd hs0 (Nat.not_lt_zero _)
  · refine v_aload_n C dX8_plan_17 rfl ?_
    refine v_getN C fl_RX8_26 rfl (hs.1 39 _ rfl) hn0 dX8_plan_18 ?_
    refine v_ifnullN 31 C dX8_plan_21 (by decide) ?_
    refine v_aload_n C dX8_plan_31 rfl ?_
    refine v_sipush 24531 C dX8_plan_32 (by decide) ?_
    refine v_newJ 24531 C ac_long (by decide) (by decide) (Nat.le_of_ble_eq_true rfl) (Nat.le_of_ble_eq_true rfl) (Nat.le_of_ble_eq_true rfl) dX8_plan_35 ?_
    refine v_eqJ hBl.j ?_
    have hsl := hs.len
    have hA : (sh ++ [Sum.inr (1, 24531)])[sh.length]? = some (.inr (1, 24531)) := by simp
    have hBl := hBl.app (.inr (1, 24531))
    have hs := hs.app (.inr (1, 24531))
    refine v_putR C fl_RX8_26 rfl rfl rfl (hs.1 39 _ rfl) dX8_plan_37 ?_
    have hBl : Blank _ I1 J (ru R 39 0 (some sh.length)) := hBl.of (fun _ _ => rfl) (fun _ _ => rfl) (fun a ha => ru_ne a (by have := hs.len; omega))
    have hs := hs.ru39 (k := 0) (by decide) (some sh.length)
    refine v_aload_n C dX8_plan_40 rfl ?_
    refine v_sipush 24531 C dX8_plan_41 (by decide) ?_
    refine v_newJ 24531 C ac_long (by decide) (by decide) (Nat.le_of_ble_eq_true rfl) (Nat.le_of_ble_eq_true rfl) (Nat.le_of_ble_eq_true rfl) dX8_plan_44 ?_
    refine v_eqJ hBl.j ?_
    have hl1 : (sh ++ [Sum.inr (1, 24531)]).length = sh.length + 1 := by simp
    have hC : (sh ++ [Sum.inr (1, 24531)] ++ [Sum.inr (1, 24531)])[sh.length + 1]? = some (.inr (1, 24531)) := by simp
    have hA : (sh ++ [Sum.inr (1, 24531)] ++ [Sum.inr (1, 24531)])[sh.length]? = some (.inr (1, 24531)) := sh_app hA
    have hBl := hBl.app (.inr (1, 24531))
    have hs := hs.app (.inr (1, 24531))
    rw [hl1]
    refine v_putR C fl_RX8_30 rfl rfl rfl (hs.1 39 _ rfl) dX8_plan_46 ?_
    have hBl : Blank _ I1 J (ru (ru R 39 0 (some sh.length)) 39 1 (some (sh.length + 1))) := hBl.of (fun _ _ => rfl) (fun _ _ => rfl) (fun a ha => ru_ne a (by have := hs.len; omega))
    have hs := hs.ru39 (k := 1) (by decide) (some (sh.length + 1))
    exact rest _ _ _ _ sh.length (sh.length + 1) q U hs (by rw [ru_k (by decide), ru_same]) ru_same (by omega) hA hC hBl rfl rfl hU hI1

set_option maxHeartbeats 4000000 in
set_option maxRecDepth 100000 in
theorem c_X8_planZ {lnc : Launch} {E : En} {sh : List Sh} {I : IM} {J : JM} {R : RM} {c : Int32} {K : Kd} {M G : Nat} (hs : St sh R) (hZ : (∃ W N, R 39 0 = some W ∧ R 39 1 = some N ∧ W ≠ N ∧ 90 ≤ W ∧ 90 ≤ N ∧ sh[W]? = some (.inr (1, 24531)) ∧ sh[N]? = some (.inr (1, 24531))) ∨ ∀ U q, QP K q U 5 → U = 0) (hB : Blank sh I J R) (hK : KC I c K) (hM : M ≤ 480) (hG : G ≤ 500) : Ct lnc E yX8_plan cX8_plan 8 (some .int) 2 58 [.ref 39, .ref 24, .int (nI M), .int (nI G), .int c] sh I J R 0 0 (shQ sh I R K M G) := by
  refine Ct.of (lv := [some (.ref 39), some (.ref 24), some (.int (nI M)), some (.int (nI G)), some (.int c), none, none, none]) (by decide) (Nat.le_of_ble_eq_true rfl) rfl (fun X hX C => ?_)
  have fin : ∀ (sh1 : List Sh) (I1 : IM) (J1 : JM) (R1 : RM) (x : Nat → Nat), St sh1 R1 → Blank sh1 I1 J1 R1 → sh1 = sh → R1 = R → Lx K 0 M G x → (∀ a, a < 39 ∨ 41 < a → I1 a = I a) → V E X (m_Z E X (shQ sh I R K M G) 0 0) 0 0 sh1 I1 J1 R1 89 [some (.ref 39), some (.ref 24), some (.int (nI M)), some (.int (nI G)), some (.int c), some (.long (lN (pS p9 x 5))), none, none] [] := by
    intro sh1 I1 J1 R1 x hs hB hg1 hg2 hx hI1
    refine v_aload_n C dX8_plan_89 rfl ?_
    refine v_iconst 1 C dX8_plan_90 (by decide) ?_
    refine v_putZ C fl_RX8_37 rfl (Or.inr rfl) (hs.1 39 _ rfl) dX8_plan_91 ?_
    refine v_aload_n C dX8_plan_94 rfl ?_
    refine v_aload_n C dX8_plan_95 rfl ?_
    refine v_lload C dX8_plan_96 rfl ?_
    refine v_callV C (c_X8_keep (y := lN (pS p9 x 5)) hs) mt_X8_keep lk_RX8_41 rfl rfl (hs.1 39 _ rfl) rfl rfl rfl (Nat.le_of_ble_eq_true rfl) (rmB_ok rfl) dX8_plan_98 ?_
    intro v sh2 I2 J2 R2 hQ
    obtain ⟨rfl, rfl, rfl, rfl, q1, q2, q3, q4, q5⟩ := hQ
    exact v_iret C dX8_plan_101 (by
      have hKi : KC (iu I1 39 5 1) c K := hK.o (fun a h1 h2 => by rw [iu_ne a (by omega)]; exact hI1 a (by omega))
      have hx5 : ∀ c, x c < 512 := fun c => by have := hx.1.xb c; omega
      have hxu : ∀ c, x c ≠ 0 → K.u c = true := fun c hc => (hx.1.1 c hc).2.2
      refine ⟨x, hx, ?_, hg1, hg2, ?_, ?_, ?_, ?_, ?_, ?_⟩
      · rw [kpM_x hKi hx5 hxu 3 K.p (fun k hk hu => ((hKi k hk).2 hu).2.2) 5 (by decide)]
      · have := hs.len
        exact hB.of (fun a ha => by rw [q1 a (by omega) (by omega), iu_ne a (by omega)]) (fun _ _ => rfl) (fun _ _ => rfl)
      · intro a ha
        rw [q1 a (by omega) (by omega), iu_ne a (by omega)]
        exact hI1 a ha
      · rw [q2 5 (by decide)]; exact iu_same
      · rw [q3, kpM_x hKi hx5 hxu 2 K.mi (fun k hk hu => ((hKi k hk).2 hu).2.1) 5 (by decide)]
      · rw [q4, kpM_x hKi hx5 hxu 1 K.w (fun k hk hu => ((hKi k hk).2 hu).1) 5 (by decide)]
      · intro k hk
        rw [q5 k hk, kpF_x hx5 hk])
  have rest : ∀ (sh1 : List Sh) (I1 : IM) (J1 : JM) (R1 : RM) (W N : Nat) (q : Nat → Nat) (U : Nat), St sh1 R1 → R1 39 0 = some W → R1 39 1 = some N → W ≠ N → sh1[W]? = some (.inr (1, 24531)) → sh1[N]? = some (.inr (1, 24531)) → Blank sh1 I1 J1 R1 → sh1 = sh → R1 = R → UQ I1 K q U → (∀ a, a < 39 ∨ 41 < a → I1 a = I a) → V E X (m_Z E X (shQ sh I R K M G) 0 0) 0 0 sh1 I1 J1 R1 49 [some (.ref 39), some (.ref 24), some (.int (nI M)), some (.int (nI G)), some (.int c), some (.long 0), none, none] [] := by
    intro sh1 I1 J1 R1 W N q U hs hW0 hN0 hWN hW hN hB hg1 hg2 hU hI1
    have loop : ∀ (fuel : Nat) (m g : Nat) (J1 : JM), m < fuel → g + m = G + 1 → Blank sh1 I1 J1 R1 → GRows K J1 W N M g 51 → V E X (m_Z E X (shQ sh I R K M G) 0 0) 0 0 sh1 I1 J1 R1 52 [some (.ref 39), some (.ref 24), some (.int (nI M)), some (.int (nI G)), some (.int c), some (.long 0), none, some (.int (nI g))] [] := by
      intro fuel
      induction fuel with
      | zero => intro m g J1 hfuel; exact absurd hfuel (Nat.not_lt_zero _)
      | succ fuel ih =>
        intro m g J1 hfuel hk hB hR
        refine v_iload C dX8_plan_52 rfl ?_
        refine v_iload_n C dX8_plan_54 rfl ?_
        refine v_icmp_gt 72 C dX8_plan_55 (by decide) (fun h55 => ?_) (fun h55 => ?_)
        · have hgn : G < g := (nI_ltI (by omega) (by omega)).mp h55
          obtain rfl : g = G + 1 := by omega
          obtain ⟨x, hx, hxW, hxN⟩ := hR G (by omega) (by omega) M (Nat.le_refl _)
          refine v_aload_n C dX8_plan_72 rfl ?_
          refine v_getR N C fl_RX8_30 rfl (hs.1 39 _ rfl) hN0 dX8_plan_73 ?_
          refine v_iload_n C dX8_plan_76 rfl ?_
          refine v_bipush 51 C dX8_plan_77 (by decide) ?_
          refine v_irem C dX8_plan_79 (by decide) ?_
          refine v_eqi (pk_rem (d := 51) (by omega) (by decide) (by decide)) ?_
          refine v_sipush 481 C dX8_plan_80 (by decide) ?_
          refine v_imul C dX8_plan_83 ?_
          refine v_eqi (pk_mul _ 481) ?_
          refine v_iload_n C dX8_plan_84 rfl ?_
          refine v_iadd C dX8_plan_85 ?_
          refine v_eqi (nI_add _ _) ?_
          refine v_laload (G % 51 * 481 + M) C hN (at_nI (by omega) (by decide)) dX8_plan_86 ?_
          refine v_eql (show _ = lN (pS p9 x 5) from hxN) ?_
          refine v_lstore C dX8_plan_87 (Nat.le_of_ble_eq_true rfl) rfl ?_
          refine v_drop 7 ?_
          exact fin sh1 I1 J1 R1 x hs hB hg1 hg2 hx hI1
        · have hgn : g ≤ G := nI_nlt2 h55 (by omega)
          obtain ⟨m, rfl⟩ : ∃ m2, m = m2 + 1 := ⟨m - 1, by omega⟩
          refine v_aload_n C dX8_plan_58 rfl ?_
          refine v_aload_n C dX8_plan_59 rfl ?_
          refine v_iload C dX8_plan_60 rfl ?_
          refine v_iload_n C dX8_plan_62 rfl ?_
          refine v_callV C (c_X8_fillRow (c := c) (K := K) (q := q) (W := W) (N := N) (U := U) (M := M) (j := g) hs hW0 hN0 hW hN hWN (hK.o (fun a h1 h2 => hI1 a (by omega))) hU (by omega) hM hR) mt_X8_fillRow lk_RX8_33 rfl rfl (hs.1 39 _ rfl) rfl rfl rfl (Nat.le_of_ble_eq_true rfl) (rmB_ok rfl) dX8_plan_63 ?_
          intro v sh2 I2 J2 R2 hQ
          obtain ⟨rfl, e2, e3, e4, q5, q6⟩ := hQ
          obtain rfl := e2.symm
          obtain rfl := e3.symm
          obtain rfl := e4.symm
          refine v_iinc (nI (g + 1)) C dX8_plan_66 rfl (nI_1 g) (Nat.le_of_ble_eq_true rfl) rfl ?_
          refine v_goto 52 C dX8_plan_69 (by decide) ?_
          exact ih m (g + 1) _ (lt_fuel hfuel) (by omega) (hB.of (fun _ _ => rfl) (fun a ha => q5 a (by have := sh_lt hW; omega) (by have := sh_lt hN; omega)) (fun _ _ => rfl)) q6
    refine v_iconst 0 C dX8_plan_49 (by decide) ?_
    refine v_istore C dX8_plan_50 (Nat.le_of_ble_eq_true rfl) rfl ?_
    exact loop (G + 2) (G + 1) 0 _ (Nat.lt_succ_self _) (by omega) hB (fun g hg => absurd hg (Nat.not_lt_zero _))
  refine v_aload_n C dX8_plan_0 rfl ?_
  refine v_aload_n C dX8_plan_1 rfl ?_
  refine v_iload C dX8_plan_2 rfl ?_
  refine v_callV C (c_X8_findUsable hs hK) mt_X8_findUsable lk_RX8_18 rfl rfl (hs.1 39 _ rfl) rfl rfl rfl (Nat.le_of_ble_eq_true rfl) (rmB_ok rfl) dX8_plan_4 ?_
  intro v sh1 I1 J1 R1 hQ
  obtain ⟨e1, e2, e3, e4, q, U, hF⟩ := hQ
  obtain rfl := e2.symm
  obtain rfl := e3.symm
  obtain rfl := e4.symm
  subst e1
  have hU : UQ I1 K q U := hF.2
  have hI1 : ∀ a, a < 39 ∨ 41 < a → I1 a = I a := fun a ha => hF.1 a (by omega) (by omega)
  have hBl : Blank sh I1 J R := hB.of (fun a ha => hF.1 a (by have := hs.len; omega) (by have := hs.len; omega)) (fun _ _ => rfl) (fun _ _ => rfl)
  have hU5 := hU.2.1.1
  refine v_lconst 0 C dX8_plan_7 (by decide) ?_
  refine v_lstore C dX8_plan_8 (Nat.le_of_ble_eq_true rfl) rfl ?_
  refine v_aload_n C dX8_plan_10 rfl ?_
  refine v_getI C fl_RX8_22 rfl (hs.1 39 _ rfl) dX8_plan_11 ?_
  refine v_eqi (show _ = nI U from hU.1) ?_
  refine v_if_le 89 C dX8_plan_14 (by decide) (fun h14 => ?_) (fun h14 => ?_)
  · obtain rfl : U = 0 := by have := (nI_leI (b := 0) (by omega) (by decide)).mp h14; omega
    refine v_lv (show _ = [some (.ref 39), some (.ref 24), some (.int (nI M)), some (.int (nI G)), some (.int c), some (.long (lN (pS p9 pz 5))), none, none] by rw [pS_z]; rfl) ?_
    exact fin sh I1 J R pz hs hBl rfl rfl (Lx.u0 hU.2.1.ql) hI1
  · rcases hZ with ⟨W, N, hW0, hN0, hWN, hW91, hN91, hW, hN⟩ | hz
    · refine v_aload_n C dX8_plan_17 rfl ?_
      refine v_getR W C fl_RX8_26 rfl (hs.1 39 _ rfl) hW0 dX8_plan_18 ?_
      refine v_ifnull C dX8_plan_21 ?_
      refine v_aload_n C dX8_plan_24 rfl ?_
      refine v_getR N C fl_RX8_30 rfl (hs.1 39 _ rfl) hN0 dX8_plan_25 ?_
      refine v_ifnonnull 49 C dX8_plan_28 (by decide) ?_
      exact rest _ _ _ _ W N q U hs hW0 hN0 hWN hW hN hBl rfl rfl hU hI1
    · exact absurd (by rw [hz U q hU.2.1]; decide) h14

theorem ix_le {x hi : Int32} {n : Nat} (h : ¬ wI x 0 hi = 0) (hn : hi = nI n) (hl : n < 2 ^ 31) : x = nI (ix x) ∧ ix x ≤ n := by
  obtain ⟨h1, h2⟩ := wI_1 h
  obtain ⟨k, hk, rfl⟩ := nI_of (Int32.not_lt.mpr h1)
  rw [show ix (nI k) = k from nI_clamp hk]
  rw [hn] at h2
  exact ⟨rfl, (nI_leI hk hl).mp h2⟩

set_option maxHeartbeats 4000000 in
set_option maxRecDepth 100000 in
theorem c_X10_shiftG {lnc : Launch} {E : En} {sh : List Sh} {I : IM} {J : JM} {R : RM} {m g c : Int32} {K : Kd} (hs : St sh R) (hn0 : R 39 0 = none) (hn1 : R 39 1 = none) (hu : ∃ k, k < 5 ∧ K.u k = true) (hB : Blank sh I J R) (hK : KC I c K) (h8 : ¬ wI m 0 480 = 0) (h19 : ¬ wI g 0 500 = 0) (h29 : ¬ wI c 0 7 = 0) : Ct lnc E yX10_shift cX10_shift 4 (some .int) 3 85 [.ref 0, .int m, .int g, .int c] sh I J R 2 49062 (shQ (sh ++ [.inr (1, 24531)] ++ [.inr (1, 24531)]) I (ru (ru R 39 0 (some sh.length)) 39 1 (some (sh.length + 1))) K (ix m) (ix g)) := by
  refine Ct.of (lv := [some (.ref 0), some (.int m), some (.int g), some (.int c)]) (by decide) (Nat.le_of_ble_eq_true rfl) rfl (fun X hX C => ?_)
  refine v_iload_n C dX10_shift_0 rfl ?_
  refine v_iconst 0 C dX10_shift_1 (by decide) ?_
  refine v_sipush 480 C dX10_shift_2 (by decide) ?_
  refine v_callSi C c_X10_within mt_X10_within lk_RX10_88 rfl rfl rfl rfl rfl dX10_shift_5 ?_
  refine v_if_eq 32 C dX10_shift_8 (by decide) (fun g8 => False.elim (h8 g8)) (fun g8 => ?_)
  refine v_iload_n C dX10_shift_11 rfl ?_
  refine v_iconst 0 C dX10_shift_12 (by decide) ?_
  refine v_sipush 500 C dX10_shift_13 (by decide) ?_
  refine v_callSi C c_X10_within mt_X10_within lk_RX10_88 rfl rfl rfl rfl rfl dX10_shift_16 ?_
  refine v_if_eq 32 C dX10_shift_19 (by decide) (fun g19 => False.elim (h19 g19)) (fun g19 => ?_)
  refine v_iload_n C dX10_shift_22 rfl ?_
  refine v_iconst 0 C dX10_shift_23 (by decide) ?_
  refine v_bipush 7 C dX10_shift_24 (by decide) ?_
  refine v_callSi C c_X10_within mt_X10_within lk_RX10_88 rfl rfl rfl rfl rfl dX10_shift_26 ?_
  refine v_if_ne 34 C dX10_shift_29 (by decide) (fun g29 => ?_) (fun g29 => False.elim (h29 g29))
  obtain ⟨em, lm⟩ := ix_le (n := 480) h8 rfl (by decide)
  obtain ⟨eg, lg⟩ := ix_le (n := 500) h19 rfl (by decide)
  refine v_aload_n C dX10_shift_34 rfl ?_
  refine v_getR 39 C fl_RX10_77 rfl (hs.1 0 _ rfl) (hs.2 0 9 39 rfl) dX10_shift_35 ?_
  refine v_aload_n C dX10_shift_38 rfl ?_
  refine v_getR 24 C fl_RX10_46 rfl (hs.1 0 _ rfl) (hs.2 0 5 24 rfl) dX10_shift_39 ?_
  refine v_iload_n C dX10_shift_42 rfl ?_
  refine v_eqi em ?_
  refine v_iload_n C dX10_shift_43 rfl ?_
  refine v_eqi eg ?_
  refine v_iload_n C dX10_shift_44 rfl ?_
  refine v_callV C (c_X8_planG hs hn0 hn1 hu hB hK lm lg) mt_X8_plan lk_RX10_227 rfl rfl (hs.1 39 _ rfl) rfl rfl rfl (Nat.le_of_ble_eq_true rfl) (rmB_ok rfl) dX10_shift_45 ?_
  intro v sh1 I1 J1 R1 hQ
  obtain ⟨x, hx, rfl, hrest⟩ := hQ
  exact v_iret C dX10_shift_48 ⟨x, hx, rfl, hrest⟩

set_option maxHeartbeats 4000000 in
set_option maxRecDepth 100000 in
theorem c_X10_shiftZ {lnc : Launch} {E : En} {sh : List Sh} {I : IM} {J : JM} {R : RM} {m g c : Int32} {K : Kd} (hs : St sh R) (hZ : (∃ W N, R 39 0 = some W ∧ R 39 1 = some N ∧ W ≠ N ∧ 90 ≤ W ∧ 90 ≤ N ∧ sh[W]? = some (.inr (1, 24531)) ∧ sh[N]? = some (.inr (1, 24531))) ∨ ∀ U q, QP K q U 5 → U = 0) (hB : Blank sh I J R) (hK : KC I c K) (h8 : ¬ wI m 0 480 = 0) (h19 : ¬ wI g 0 500 = 0) (h29 : ¬ wI c 0 7 = 0) : Ct lnc E yX10_shift cX10_shift 4 (some .int) 3 85 [.ref 0, .int m, .int g, .int c] sh I J R 0 0 (shQ sh I R K (ix m) (ix g)) := by
  refine Ct.of (lv := [some (.ref 0), some (.int m), some (.int g), some (.int c)]) (by decide) (Nat.le_of_ble_eq_true rfl) rfl (fun X hX C => ?_)
  refine v_iload_n C dX10_shift_0 rfl ?_
  refine v_iconst 0 C dX10_shift_1 (by decide) ?_
  refine v_sipush 480 C dX10_shift_2 (by decide) ?_
  refine v_callSi C c_X10_within mt_X10_within lk_RX10_88 rfl rfl rfl rfl rfl dX10_shift_5 ?_
  refine v_if_eq 32 C dX10_shift_8 (by decide) (fun g8 => False.elim (h8 g8)) (fun g8 => ?_)
  refine v_iload_n C dX10_shift_11 rfl ?_
  refine v_iconst 0 C dX10_shift_12 (by decide) ?_
  refine v_sipush 500 C dX10_shift_13 (by decide) ?_
  refine v_callSi C c_X10_within mt_X10_within lk_RX10_88 rfl rfl rfl rfl rfl dX10_shift_16 ?_
  refine v_if_eq 32 C dX10_shift_19 (by decide) (fun g19 => False.elim (h19 g19)) (fun g19 => ?_)
  refine v_iload_n C dX10_shift_22 rfl ?_
  refine v_iconst 0 C dX10_shift_23 (by decide) ?_
  refine v_bipush 7 C dX10_shift_24 (by decide) ?_
  refine v_callSi C c_X10_within mt_X10_within lk_RX10_88 rfl rfl rfl rfl rfl dX10_shift_26 ?_
  refine v_if_ne 34 C dX10_shift_29 (by decide) (fun g29 => ?_) (fun g29 => False.elim (h29 g29))
  obtain ⟨em, lm⟩ := ix_le (n := 480) h8 rfl (by decide)
  obtain ⟨eg, lg⟩ := ix_le (n := 500) h19 rfl (by decide)
  refine v_aload_n C dX10_shift_34 rfl ?_
  refine v_getR 39 C fl_RX10_77 rfl (hs.1 0 _ rfl) (hs.2 0 9 39 rfl) dX10_shift_35 ?_
  refine v_aload_n C dX10_shift_38 rfl ?_
  refine v_getR 24 C fl_RX10_46 rfl (hs.1 0 _ rfl) (hs.2 0 5 24 rfl) dX10_shift_39 ?_
  refine v_iload_n C dX10_shift_42 rfl ?_
  refine v_eqi em ?_
  refine v_iload_n C dX10_shift_43 rfl ?_
  refine v_eqi eg ?_
  refine v_iload_n C dX10_shift_44 rfl ?_
  refine v_callV C (c_X8_planZ hs hZ hB hK lm lg) mt_X8_plan lk_RX10_227 rfl rfl (hs.1 39 _ rfl) rfl rfl rfl (Nat.le_of_ble_eq_true rfl) (rmB_ok rfl) dX10_shift_45 ?_
  intro v sh1 I1 J1 R1 hQ
  obtain ⟨x, hx, rfl, hrest⟩ := hQ
  exact v_iret C dX10_shift_48 ⟨x, hx, rfl, hrest⟩

set_option maxHeartbeats 4000000 in
set_option maxRecDepth 100000 in
theorem c_X10_shiftF {lnc : Launch} {E : En} {sh : List Sh} {I : IM} {J : JM} {R : RM} {m g c : Int32} (hs : St sh R) (hw : wI m 0 480 = 0 ∨ wI g 0 500 = 0 ∨ wI c 0 7 = 0) : Ct lnc E yX10_shift cX10_shift 4 (some .int) 3 85 [.ref 0, .int m, .int g, .int c] sh I J R 0 0 (m_ret (some (.int (-1))) sh I J R) := by
  refine Ct.of (lv := [some (.ref 0), some (.int m), some (.int g), some (.int c)]) (by decide) (Nat.le_of_ble_eq_true rfl) rfl (fun X hX C => ?_)
  refine v_iload_n C dX10_shift_0 rfl ?_
  refine v_iconst 0 C dX10_shift_1 (by decide) ?_
  refine v_sipush 480 C dX10_shift_2 (by decide) ?_
  refine v_callSi C c_X10_within mt_X10_within lk_RX10_88 rfl rfl rfl rfl rfl dX10_shift_5 ?_
  refine v_if_eq 32 C dX10_shift_8 (by decide) (fun h8 => ?_) (fun h8 => ?_)
  · refine v_iconst (-1) C dX10_shift_32 (by decide) ?_
    exact v_iret C dX10_shift_33 m_ret_rf
  · refine v_iload_n C dX10_shift_11 rfl ?_
    refine v_iconst 0 C dX10_shift_12 (by decide) ?_
    refine v_sipush 500 C dX10_shift_13 (by decide) ?_
    refine v_callSi C c_X10_within mt_X10_within lk_RX10_88 rfl rfl rfl rfl rfl dX10_shift_16 ?_
    refine v_if_eq 32 C dX10_shift_19 (by decide) (fun h19 => ?_) (fun h19 => ?_)
    · refine v_iconst (-1) C dX10_shift_32 (by decide) ?_
      exact v_iret C dX10_shift_33 m_ret_rf
    · refine v_iload_n C dX10_shift_22 rfl ?_
      refine v_iconst 0 C dX10_shift_23 (by decide) ?_
      refine v_bipush 7 C dX10_shift_24 (by decide) ?_
      refine v_callSi C c_X10_within mt_X10_within lk_RX10_88 rfl rfl rfl rfl rfl dX10_shift_26 ?_
      refine v_if_ne 34 C dX10_shift_29 (by decide) (fun h29 => ?_) (fun h29 => ?_)
      · rcases hw with hw | hw | hw
        · exact absurd hw h8
        · exact absurd hw h19
        · exact absurd hw h29
      · refine v_iconst (-1) C dX10_shift_32 (by decide) ?_
        exact v_iret C dX10_shift_33 m_ret_rf
