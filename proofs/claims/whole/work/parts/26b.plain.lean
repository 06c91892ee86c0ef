/-! ===== the relation kept: plain methods ===== -/
section RelM
variable {sh : List Sh} {I : IM} {J : JM} {R : RM} {c : Nat}
theorem wI_iff (x lo hi : Int32) : wI x lo hi = 0 ↔ ¬ (lo.toInt ≤ x.toInt ∧ x.toInt ≤ hi.toInt) := by
  constructor
  · intro h q
    exact wI_0 h ⟨Int32.le_iff_toInt_le.mpr q.1, Int32.le_iff_toInt_le.mpr q.2⟩
  · intro h
    rcases Classical.em (wI x lo hi = 0) with r | r
    · exact r
    · exact absurd (wI_int r) h
theorem r_right (h : Rel sh I J R c) (s m : Int32) : rightR (rightI I 2 s m) 48 s m = rightR I 2 s m ∧ Rel sh (rightI (rightI I 2 s m) 48 s m) J R (c + 1) := by
  by_cases h1 : wI s 0 4 = 0
  · simp only [rightR, rightI, if_pos h1]
    exact ⟨trivial, h.mono⟩
  by_cases h2 : wI m 0 10000 = 0
  · simp only [rightR, rightI, if_neg h1, if_pos h2]
    exact ⟨trivial, h.mono⟩
  simp only [rightR, rightI, if_neg h1, if_neg h2]
  exact ⟨congrFun h.rws.1 (ix s), ⟨⟨h.st, h.wp, ((h.bl.iu (by have := h.st.len; omega)).iu (by have := h.st.len; omega))⟩, h.sc, ⟨pair_row h.rws.1 (by decide), h.rws.2⟩, (h.kd.fr (fun a h1 h2 => by rw [iu_ne a (by omega), iu_ne a (by omega)]) (fun a h1 h2 => by rw [iu_ne a (by omega), iu_ne a (by omega)])), (h.pots.fr (fun a h1 h2 => by rw [iu_ne a (by omega), iu_ne a (by omega)]) (fun a h1 h2 => by rw [iu_ne a (by omega), iu_ne a (by omega)]) (Nat.le_refl _)), h.tx, h.shf, h.mv, (h.pc.fr (fun a h1 h2 => by rw [iu_ne a (by omega), iu_ne a (by omega)]) (fun a h1 => by rw [iu_ne a (by omega), iu_ne a (by omega)]) (fun b hb => by rw [iu_ne (31 + 2 * b) (by omega), iu_ne (31 + 2 * b) (by omega)]) rfl rfl (Nat.le_succ c))⟩⟩

theorem cut_eq {m r f st : Int32} {v : Nat} (hm : ¬ wI m 1 10000 = 0) (hst : st = nI v) (hv : v ≤ 20000) : cutN m r f st = fellW m r f st ∧ ∃ w, v + w ≤ 20000 ∧ fellW m r f st = nI w := by
  have a := wI_int hm
  have e1 : (1 : Int32).toInt = 1 := by decide
  have e2 : (10000 : Int32).toInt = 10000 := by decide
  have e0 : (0 : Int32).toInt = 0 := by decide
  rw [e1, e2] at a
  have es : 20000 - st = nI (20000 - v) := by rw [hst, show (20000 : Int32) = nI 20000 from rfl, pk_sub hv]
  have et : (nI (20000 - v)).toInt = ((20000 - v : Nat) : Int) := nI_toInt (by omega)
  unfold cutN fellW
  rw [es]
  generalize r - f = d
  generalize hq : nI (20000 - v) = q at et
  have key : mn m (mn (mx 0 d) q) = (if m ≤ d then (if m ≤ q then (if 0 ≤ m then m else 0) else (if 0 ≤ q then q else 0)) else (if d ≤ q then (if 0 ≤ d then d else 0) else (if 0 ≤ q then q else 0))) := by
    unfold mn mx
    simp only [Int32.le_iff_toInt_le, Int32.lt_iff_toInt_lt, e0]
    apply Int32.toInt_inj.mp
    repeat' split
    all_goals simp only [Int32.le_iff_toInt_le, Int32.lt_iff_toInt_lt, e0] at *
    all_goals omega
  refine ⟨key.symm, ?_⟩
  have b : 0 ≤ (mn m (mn (mx 0 d) q)).toInt ∧ (mn m (mn (mx 0 d) q)).toInt ≤ q.toInt := by
    unfold mn mx
    simp only [Int32.lt_iff_toInt_lt, e0]
    repeat' split
    all_goals simp only [Int32.lt_iff_toInt_lt, e0] at *
    all_goals omega
  obtain ⟨w, hw, e⟩ := nI_of (x := mn m (mn (mx 0 d) q)) (by rw [Int32.lt_iff_toInt_lt, e0]; omega)
  refine ⟨w, ?_, e⟩
  rw [e, nI_toInt hw] at b
  omega
theorem r_cut (h : Rel sh I J R c) (m : Int32) : cutRm (cutI I m) m = cutR I m ∧ Rel sh (cutIm (cutI I m) m) J R (c + 1) := by
  by_cases h1 : wI m 1 10000 = 0
  · simp only [cutR, cutRm, cutI, cutIm, if_pos h1]
    exact ⟨trivial, h.mono⟩
  by_cases h2 : endF (I 0 11) = 0
  · have h3 := (end_iff h.sc.1).mp h2
    have e48 : I 47 1 = I 1 2 := h.sc.2.1.eq
    have est : I 47 2 = I 1 3 := h.sc.2.2.1.eq
    obtain ⟨v, hv, hx, hy⟩ := h.sc.2.2.1
    obtain ⟨hc, w, hw, he⟩ := cut_eq (r := I 2 (ix (I 1 2))) (f := I 3 (ix (I 1 2))) h1 hx hv
    have ei : cutI I m = iu (iu I 3 (ix (I 1 2)) (I 3 (ix (I 1 2)) + nI w)) 1 3 (nI (v + w)) := by
      simp only [cutI, if_neg h1, if_pos h2, fellI, he]
      rw [hx, nI_add]
    have er : cutR I m = nI w := by simp only [cutR, if_neg h1, if_pos h2, he]
    rw [er, ei]
    have eN : cutN m (I 48 (ix (I 47 1))) (I 49 (ix (I 47 1))) (I 47 2) = nI w := by rw [e48, est, h.rws.1, h.rws.2.1, hc, he]
    have ea : cutRm (iu (iu I 3 (ix (I 1 2)) (I 3 (ix (I 1 2)) + nI w)) 1 3 (nI (v + w))) m = nI w := by
      show (if wI m 1 10000 = 0 then -1 else if I 47 0 = 5000 then -1 else cutN m (I 48 (ix (I 47 1))) (I 49 (ix (I 47 1))) (I 47 2)) = _
      rw [if_neg h1, if_neg h3, eN]
    have em : cutIm (iu (iu I 3 (ix (I 1 2)) (I 3 (ix (I 1 2)) + nI w)) 1 3 (nI (v + w))) m = iu (iu (iu (iu I 3 (ix (I 1 2)) (I 3 (ix (I 1 2)) + nI w)) 1 3 (nI (v + w))) 49 (ix (I 1 2)) (I 3 (ix (I 1 2)) + nI w)) 47 2 (nI (v + w)) := by
      unfold cutIm cutSm
      rw [if_neg h1]
      show (if I 47 0 = 5000 then _ else iu (iu (iu (iu I 3 (ix (I 1 2)) (I 3 (ix (I 1 2)) + nI w)) 1 3 (nI (v + w))) 49 (ix (I 47 1)) (I 49 (ix (I 47 1)) + cutN m (I 48 (ix (I 47 1))) (I 49 (ix (I 47 1))) (I 47 2))) 47 2 (I 47 2 + cutN m (I 48 (ix (I 47 1))) (I 49 (ix (I 47 1))) (I 47 2))) = _
      rw [if_neg h3, eN, e48, h.rws.2.1, hy, nI_add]
    rw [ea, em]
    exact ⟨rfl, ⟨⟨h.st, h.wp, ((((h.bl.iu (by have := h.st.len; omega)).iu (by have := h.st.len; omega)).iu (by have := h.st.len; omega)).iu (by have := h.st.len; omega))⟩, ⟨h.sc.1, h.sc.2.1, ⟨v + w, hw, rfl, rfl⟩, h.sc.2.2.2⟩, ⟨h.rws.1, by funext k; have := congrFun h.rws.2.1 k; simp [iu_ap, this], h.rws.2.2⟩, (h.kd.fr (fun a h1 h2 => by rw [iu_ne a (by omega), iu_ne a (by omega), iu_ne a (by omega), iu_ne a (by omega)]) (fun a h1 h2 => by rw [iu_ne a (by omega), iu_ne a (by omega), iu_ne a (by omega), iu_ne a (by omega)])), (h.pots.fr (fun a h1 h2 => by rw [iu_ne a (by omega), iu_ne a (by omega), iu_ne a (by omega), iu_ne a (by omega)]) (fun a h1 h2 => by rw [iu_ne a (by omega), iu_ne a (by omega), iu_ne a (by omega), iu_ne a (by omega)]) (Nat.le_refl _)), h.tx, h.shf, h.mv, (h.pc.fr (fun a h1 h2 => by rw [iu_ne a (by omega), iu_ne a (by omega), iu_ne a (by omega), iu_ne a (by omega)]) (fun a h1 => by rw [iu_ne a (by omega), iu_ne a (by omega), iu_ne a (by omega), iu_ne a (by omega)]) (fun b hb => by rw [iu_ne (31 + 2 * b) (by omega), iu_ne (31 + 2 * b) (by omega), iu_ne (31 + 2 * b) (by omega), iu_ne (31 + 2 * b) (by omega)]) rfl rfl (Nat.le_succ c))⟩⟩
  · have h3 : I 47 0 = 5000 := by
      rcases Classical.em (I 47 0 = 5000) with r | r
      · exact r
      · exact absurd ((end_iff h.sc.1).mpr r) h2
    have ei : cutI I m = I := by simp only [cutI, if_neg h1, if_neg h2]
    have er : cutR I m = -1 := by simp only [cutR, if_neg h1, if_neg h2]
    rw [ei, er]
    simp only [cutRm, cutIm, if_neg h1, if_pos h3]
    exact ⟨trivial, h.mono⟩

theorem r_rate (h : Rel sh I J R c) (r : Int32) : rateR (rateI I 4 4 r) 47 3 r = rateR I 4 4 r ∧ Rel sh (rateI (rateI I 4 4 r) 47 3 r) J R (c + 1) := by
  by_cases h1 : wI r 0 20 = 0
  · simp only [rateR, rateI, if_pos h1]
    exact ⟨trivial, h.mono⟩
  simp only [rateR, rateI, if_neg h1]
  obtain ⟨e, l⟩ := ix_le (n := 20) h1 rfl (by decide)
  exact ⟨h.sc.2.2.2.1.eq, ⟨⟨h.st, h.wp, ((h.bl.iu (by have := h.st.len; omega)).iu (by have := h.st.len; omega))⟩, ⟨h.sc.1, h.sc.2.1, h.sc.2.2.1, ⟨ix r, l, e, e⟩, h.sc.2.2.2.2⟩, h.rws, (h.kd.fr (fun a h1 h2 => by rw [iu_ne a (by omega), iu_ne a (by omega)]) (fun a h1 h2 => by rw [iu_ne a (by omega), iu_ne a (by omega)])), (h.pots.fr (fun a h1 h2 => by rw [iu_ne a (by omega), iu_ne a (by omega)]) (fun a h1 h2 => by rw [iu_ne a (by omega), iu_ne a (by omega)]) (Nat.le_refl _)), h.tx, h.shf, h.mv, (h.pc.fr (fun a h1 h2 => by rw [iu_ne a (by omega), iu_ne a (by omega)]) (fun a h1 => by rw [iu_ne a (by omega), iu_ne a (by omega)]) (fun b hb => by rw [iu_ne (31 + 2 * b) (by omega), iu_ne (31 + 2 * b) (by omega)]) rfl rfl (Nat.le_succ c))⟩⟩

theorem cold_ok (f t d : Int32) : (!(wI f 0 t == 0) && (!(wI t 0 4999 == 0) && !(wI d 1 100 == 0))) = coldOk f t d := by
  unfold coldOk
  have e0 : (0 : Int32).toInt = 0 := by decide
  have key : (!(wI f 0 t == 0) && !(wI t 0 4999 == 0)) = (!(wI f 0 4999 == 0) && !(wI t f 4999 == 0)) := by
    rw [Bool.eq_iff_iff]
    simp only [Bool.and_eq_true, Bool.not_eq_true', beq_eq_false_iff_ne, ne_eq, wI_iff, Classical.not_not, e0]
    omega
  rw [← Bool.and_assoc, key, Bool.and_assoc]
theorem r_cold (h : Rel sh I J R c) (f t d : Int32) : coldRm (coldI I f t d) f t d = coldR I f t d ∧ Rel sh (coldIm (coldI I f t d) f t d) J R (c + 1) := by
  obtain ⟨v, hv, hx, hy⟩ := id h.sc.2.2.2.2.2.2.1
  have ek : ∀ I' : IM, coldOkm I' f t d = (!(I' 47 8 == 20) && coldOk f t d) := fun I' => by unfold coldOkm; rw [cold_ok]
  by_cases h1 : coldOk f t d = true
  · by_cases h2 : v < 20
    · have l20 : I 4 3 < 20 := by rw [hx]; exact nI_lt h2 (by decide)
      have n20 : ¬ I 47 8 = 20 := by rw [hy]; intro e; have := (nI_eq (b := 20) (by omega) (by decide)).mp e; omega
      have hix : ix (I 4 3) = v := by rw [hx]; exact ixn (by omega)
      have ei : coldI I f t d = iu (iu (iu (iu I 5 v f) 6 v t) 7 v d) 4 3 (nI (v + 1)) := by
        simp only [coldI, if_pos h1, if_pos l20, spellI, hix]
        rw [hx, nI_1]
      have er : coldR I f t d = nI (v + 1) := by
        simp only [coldR, if_pos h1, if_pos l20]
        rw [hx, nI_1]
      have ho : coldOkm (iu (iu (iu (iu I 5 v f) 6 v t) 7 v d) 4 3 (nI (v + 1))) f t d = true := by
        rw [ek]
        show (!(I 47 8 == 20) && coldOk f t d) = true
        rw [h1]
        simpa using n20
      rw [ei, er]
      have ea : coldRm (iu (iu (iu (iu I 5 v f) 6 v t) 7 v d) 4 3 (nI (v + 1))) f t d = nI (v + 1) := by
        unfold coldRm
        rw [if_pos ho]
        show I 47 8 + 1 = _
        rw [hy, nI_1]
      have em : coldIm (iu (iu (iu (iu I 5 v f) 6 v t) 7 v d) 4 3 (nI (v + 1))) f t d = iu (iu (iu (iu (iu (iu (iu (iu I 5 v f) 6 v t) 7 v d) 4 3 (nI (v + 1))) 50 v f) 51 v t) 52 v d) 47 8 (nI (v + 1)) := by
        unfold coldIm spellIm
        rw [if_pos ho]
        show iu (iu (iu (iu _ 50 (ix (I 47 8)) f) 51 (ix (I 47 8)) t) 52 (ix (I 47 8)) d) 47 8 (I 47 8 + 1) = _
        rw [hy, ixn (by omega), nI_1]
      rw [ea, em]
      exact ⟨rfl, ⟨⟨h.st, h.wp, ((((((((h.bl.iu (by have := h.st.len; omega)).iu (by have := h.st.len; omega)).iu (by have := h.st.len; omega)).iu (by have := h.st.len; omega)).iu (by have := h.st.len; omega)).iu (by have := h.st.len; omega)).iu (by have := h.st.len; omega)).iu (by have := h.st.len; omega))⟩, ⟨h.sc.1, h.sc.2.1, h.sc.2.2.1, h.sc.2.2.2.1, h.sc.2.2.2.2.1, h.sc.2.2.2.2.2.1, ⟨v + 1, h2, rfl, rfl⟩, h.sc.2.2.2.2.2.2.2⟩, ⟨h.rws.1, h.rws.2.1, by funext k; have := congrFun h.rws.2.2.1 k; simp [iu_ap, this], by funext k; have := congrFun h.rws.2.2.2.1 k; simp [iu_ap, this], by funext k; have := congrFun h.rws.2.2.2.2.1 k; simp [iu_ap, this], h.rws.2.2.2.2.2⟩, (h.kd.fr (fun a h1 h2 => by rw [iu_ne a (by omega), iu_ne a (by omega), iu_ne a (by omega), iu_ne a (by omega), iu_ne a (by omega), iu_ne a (by omega), iu_ne a (by omega), iu_ne a (by omega)]) (fun a h1 h2 => by rw [iu_ne a (by omega), iu_ne a (by omega), iu_ne a (by omega), iu_ne a (by omega), iu_ne a (by omega), iu_ne a (by omega), iu_ne a (by omega), iu_ne a (by omega)])), (h.pots.fr (fun a h1 h2 => by rw [iu_ne a (by omega), iu_ne a (by omega), iu_ne a (by omega), iu_ne a (by omega), iu_ne a (by omega), iu_ne a (by omega), iu_ne a (by omega), iu_ne a (by omega)]) (fun a h1 h2 => by rw [iu_ne a (by omega), iu_ne a (by omega), iu_ne a (by omega), iu_ne a (by omega), iu_ne a (by omega), iu_ne a (by omega), iu_ne a (by omega), iu_ne a (by omega)]) (Nat.le_refl _)), h.tx, h.shf, h.mv, (h.pc.fr (fun a h1 h2 => by rw [iu_ne a (by omega), iu_ne a (by omega), iu_ne a (by omega), iu_ne a (by omega), iu_ne a (by omega), iu_ne a (by omega), iu_ne a (by omega), iu_ne a (by omega)]) (fun a h1 => by rw [iu_ne a (by omega), iu_ne a (by omega), iu_ne a (by omega), iu_ne a (by omega), iu_ne a (by omega), iu_ne a (by omega), iu_ne a (by omega), iu_ne a (by omega)]) (fun b hb => by rw [iu_ne (31 + 2 * b) (by omega), iu_ne (31 + 2 * b) (by omega), iu_ne (31 + 2 * b) (by omega), iu_ne (31 + 2 * b) (by omega), iu_ne (31 + 2 * b) (by omega), iu_ne (31 + 2 * b) (by omega), iu_ne (31 + 2 * b) (by omega), iu_ne (31 + 2 * b) (by omega)]) rfl rfl (Nat.le_succ c))⟩⟩
    · have e20 : v = 20 := by omega
      subst e20
      have l20 : ¬ I 4 3 < 20 := by rw [hx]; exact nI_nlt (Nat.le_refl 20) (by decide)
      have ei : coldI I f t d = I := by simp only [coldI, if_pos h1, if_neg l20]
      have er : coldR I f t d = -1 := by simp only [coldR, if_pos h1, if_neg l20]
      have ho : ¬ coldOkm I f t d = true := by
        rw [ek, hy]
        simp
        intro e
        exact absurd (by rfl) e
      rw [ei, er]
      simp only [coldRm, coldIm, if_neg ho]
      exact ⟨trivial, h.mono⟩
  · have ei : coldI I f t d = I := by simp only [coldI, if_neg h1]
    have er : coldR I f t d = -1 := by simp only [coldR, if_neg h1]
    have ho : ¬ coldOkm I f t d = true := by
      rw [ek]
      simp [h1]
    rw [ei, er]
    simp only [coldRm, coldIm, if_neg ho]
    exact ⟨trivial, h.mono⟩

theorem emp_iff (h : RPots I) {k : Nat} (hk : k < 6) : emp (I (18 + k) 0) = 0 ↔ ¬ I 53 k < 0 := by
  obtain ⟨q0, q⟩ := h k hk
  rw [q0]
  unfold emp
  rcases q with q | ⟨⟨b, hb, e⟩, _⟩
  · rw [q]; decide
  · rw [e, if_neg (nI_nm1 (by omega))]
    exact ⟨fun _ => nI_pos (by omega), fun _ => rfl⟩
theorem bay_sz (h : RPiece sh I R c) {b : Nat} (hb : b < 3) : I 76 b = I (31 + 2 * b) 1 := by
  obtain ⟨n, pa, q1, q2, q3, p1, p2, p3, p4⟩ := h
  exact (p3 b hb).2
theorem allE_eq (h : Rel sh I J R c) : allEm I = allE I := by
  unfold allE allEm
  have e0 := emp_iff h.pots (k := 0) (by decide)
  have e1 := emp_iff h.pots (k := 1) (by decide)
  have e2 := emp_iff h.pots (k := 2) (by decide)
  have e3 := emp_iff h.pots (k := 3) (by decide)
  have e4 := emp_iff h.pots (k := 4) (by decide)
  have e5 := emp_iff h.pots (k := 5) (by decide)
  have b0 := bay_sz h.pc (b := 0) (by decide)
  have b1 := bay_sz h.pc (b := 1) (by decide)
  have b2 := bay_sz h.pc (b := 2) (by decide)
  simp only [Nat.add_zero, Nat.mul_zero, Nat.reduceAdd, Nat.reduceMul] at e0 e1 e2 e3 e4 e5 b0 b1 b2
  simp only [e0, e1, e2, e3, e4, e5, b0, b1, b2]
theorem r_go (h : Rel sh I J R c) (s : Int32) : goRm (goI I s) s = goR I s ∧ Rel sh (goIm (goI I s) s) J R (c + 1) := by
  have e48 : I 47 1 = I 1 2 := h.sc.2.1.eq
  by_cases h1 : wI s 0 4 = 0
  · simp only [goR, goRm, goI, goIm, if_pos h1]
    exact ⟨trivial, h.mono⟩
  by_cases h2 : s = I 1 2
  · have ei : goI I s = I := by simp only [goI, if_neg h1, if_pos h2]
    have er : goR I s = 0 := by simp only [goR, if_neg h1, if_pos h2]
    have h2' : s = I 47 1 := h2.trans e48.symm
    rw [ei, er]
    simp only [goRm, goIm, if_neg h1, if_pos h2']
    exact ⟨trivial, h.mono⟩
  have h2' : ¬ s = I 47 1 := fun e => h2 (e.trans e48)
  by_cases h3 : endF (I 0 11) = 0
  · have h3' := (end_iff h.sc.1).mp h3
    by_cases h4 : allE I = 0
    · have ei : goI I s = I := by simp only [goI, if_neg h1, if_neg h2, if_pos h3, if_pos h4]
      have er : goR I s = 0 := by simp only [goR, if_neg h1, if_neg h2, if_pos h3, if_pos h4]
      have h4' : allEm I = 0 := (allE_eq h).trans h4
      rw [ei, er]
      simp only [goRm, goIm, if_neg h1, if_neg h2', if_neg h3', if_pos h4']
      exact ⟨trivial, h.mono⟩
    · have ei : goI I s = iu (iu (iu I 1 2 s) 1 3 0) 4 5 0 := by simp only [goI, if_neg h1, if_neg h2, if_pos h3, if_neg h4]
      have er : goR I s = 1 := by simp only [goR, if_neg h1, if_neg h2, if_pos h3, if_neg h4]
      have h4' : ¬ allEm I = 0 := fun e => h4 ((allE_eq h).symm.trans e)
      have ea : goRm (iu (iu (iu I 1 2 s) 1 3 0) 4 5 0) s = 1 := by
        unfold goRm
        rw [if_neg h1]
        show (if s = I 47 1 then 0 else if I 47 0 = 5000 then 0 else if allEm I = 0 then 0 else 1) = _
        rw [if_neg h2', if_neg h3', if_neg h4']
      have em : goIm (iu (iu (iu I 1 2 s) 1 3 0) 4 5 0) s = iu (iu (iu (iu (iu (iu I 1 2 s) 1 3 0) 4 5 0) 47 1 s) 47 4 0) 47 2 0 := by
        unfold goIm
        rw [if_neg h1]
        show (if s = I 47 1 then _ else if I 47 0 = 5000 then _ else if allEm I = 0 then _ else _) = _
        rw [if_neg h2', if_neg h3', if_neg h4']
      rw [ei, er, ea, em]
      obtain ⟨e, l⟩ := ix_le (n := 4) h1 rfl (by decide)
      exact ⟨rfl, ⟨⟨h.st, h.wp, ((((((h.bl.iu (by have := h.st.len; omega)).iu (by have := h.st.len; omega)).iu (by have := h.st.len; omega)).iu (by have := h.st.len; omega)).iu (by have := h.st.len; omega)).iu (by have := h.st.len; omega))⟩, ⟨h.sc.1, ⟨ix s, l, e, e⟩, ⟨0, by decide, rfl, rfl⟩, h.sc.2.2.2.1, rfl, h.sc.2.2.2.2.2⟩, h.rws, (h.kd.fr (fun a h1 h2 => by rw [iu_ne a (by omega), iu_ne a (by omega), iu_ne a (by omega), iu_ne a (by omega), iu_ne a (by omega), iu_ne a (by omega)]) (fun a h1 h2 => by rw [iu_ne a (by omega), iu_ne a (by omega), iu_ne a (by omega), iu_ne a (by omega), iu_ne a (by omega), iu_ne a (by omega)])), (h.pots.fr (fun a h1 h2 => by rw [iu_ne a (by omega), iu_ne a (by omega), iu_ne a (by omega), iu_ne a (by omega), iu_ne a (by omega), iu_ne a (by omega)]) (fun a h1 h2 => by rw [iu_ne a (by omega), iu_ne a (by omega), iu_ne a (by omega), iu_ne a (by omega), iu_ne a (by omega), iu_ne a (by omega)]) (Nat.le_refl _)), h.tx, h.shf, h.mv, (h.pc.fr (fun a h1 h2 => by rw [iu_ne a (by omega), iu_ne a (by omega), iu_ne a (by omega), iu_ne a (by omega), iu_ne a (by omega), iu_ne a (by omega)]) (fun a h1 => by rw [iu_ne a (by omega), iu_ne a (by omega), iu_ne a (by omega), iu_ne a (by omega), iu_ne a (by omega), iu_ne a (by omega)]) (fun b hb => by rw [iu_ne (31 + 2 * b) (by omega), iu_ne (31 + 2 * b) (by omega), iu_ne (31 + 2 * b) (by omega), iu_ne (31 + 2 * b) (by omega), iu_ne (31 + 2 * b) (by omega), iu_ne (31 + 2 * b) (by omega)]) rfl rfl (Nat.le_succ c))⟩⟩
  · have h3' : I 47 0 = 5000 := by
      rcases Classical.em (I 47 0 = 5000) with r | r
      · exact r
      · exact absurd ((end_iff h.sc.1).mpr r) h3
    have ei : goI I s = I := by simp only [goI, if_neg h1, if_neg h2, if_neg h3]
    have er : goR I s = 0 := by simp only [goR, if_neg h1, if_neg h2, if_neg h3]
    rw [ei, er]
    simp only [goRm, goIm, if_neg h1, if_neg h2', if_pos h3']
    exact ⟨trivial, h.mono⟩

theorem r_end (h : Rel sh I J R c) (n : Int32) : endRm (endI I 8 5 n 47 39) n = endR (I 8 5) n ∧ Rel sh (endIm (endI I 8 5 n) n) J R (c + 1) := by
  obtain ⟨v, hv, hx, hy⟩ := id h.tx.1
  have e0 : (0 : Int32).toInt = 0 := by decide
  by_cases h1 : wI n 0 (I 8 5) = 0
  · have ei : endI I 8 5 n = I := by simp only [endI, if_pos h1]
    have er : endR (I 8 5) n = -1 := by simp only [endR, if_pos h1]
    rw [ei, er]
    rw [wI_iff, hx, e0] at h1
    unfold endRm endIm
    by_cases h2 : n < 0
    · rw [if_pos h2, if_pos h2]; exact ⟨rfl, h.mono⟩
    · have h3 : ¬ n ≤ I 47 39 := by
        rw [hy, Int32.le_iff_toInt_le]
        rw [Int32.lt_iff_toInt_lt, e0] at h2
        omega
      rw [if_neg h2, if_neg h3, if_neg h2, if_neg h3]
      exact ⟨rfl, h.mono⟩
  · have ei : endI I 8 5 n = iu I 8 5 n := by simp only [endI, if_neg h1]
    have er : endR (I 8 5) n = n := by simp only [endR, if_neg h1]
    rw [ei, er]
    have h1' := wI_1 h1
    have h2 : ¬ n < 0 := Int32.not_lt.mpr h1'.1
    have h3 : n ≤ I 47 39 := by rw [hy, ← hx]; exact h1'.2
    have ea : endRm (iu I 8 5 n 47 39) n = n := by
      unfold endRm
      rw [if_neg h2]
      exact if_pos h3
    have em : endIm (iu I 8 5 n) n = iu (iu I 8 5 n) 47 39 n := by
      unfold endIm
      rw [if_neg h2]
      exact if_pos h3
    rw [ea, em]
    obtain ⟨e, l⟩ := ix_le h1 hx (by omega)
    exact ⟨rfl, ⟨⟨h.st, h.wp, ((h.bl.iu (by have := h.st.len; omega)).iu (by have := h.st.len; omega))⟩, h.sc, h.rws, (h.kd.fr (fun a h1 h2 => by rw [iu_ne a (by omega), iu_ne a (by omega)]) (fun a h1 h2 => by rw [iu_ne a (by omega), iu_ne a (by omega)])), (h.pots.fr (fun a h1 h2 => by rw [iu_ne a (by omega), iu_ne a (by omega)]) (fun a h1 h2 => by rw [iu_ne a (by omega), iu_ne a (by omega)]) (Nat.le_refl _)), ⟨⟨ix n, by omega, e, e⟩, h.tx.2⟩, h.shf, h.mv, (h.pc.fr (fun a h1 h2 => by rw [iu_ne a (by omega), iu_ne a (by omega)]) (fun a h1 => by rw [iu_ne a (by omega), iu_ne a (by omega)]) (fun b hb => by rw [iu_ne (31 + 2 * b) (by omega), iu_ne (31 + 2 * b) (by omega)]) rfl rfl (Nat.le_succ c))⟩⟩

theorem r_buy (h : Rel sh I J R c) (b : Int32) : buyR (buyI I 0 12 b) 47 5 b = buyR I 0 12 b ∧ Rel sh (buyI (buyI I 0 12 b) 47 5 b) J R (c + 1) := by
  have e := h.sc.2.2.2.2.2.1
  by_cases h1 : wI b 1 5000 = 0
  · simp only [buyR, buyI, if_pos h1]
    exact ⟨trivial, h.mono⟩
  by_cases h2 : I 0 12 + b ≤ 100000
  · have ei : buyI I 0 12 b = iu I 0 12 (I 0 12 + b) := by simp only [buyI, if_neg h1, if_pos h2]
    have er : buyR I 0 12 b = I 0 12 + b := by simp only [buyR, if_neg h1, if_pos h2]
    have ea : buyR (iu I 0 12 (I 0 12 + b)) 47 5 b = I 0 12 + b := by
      unfold buyR
      rw [if_neg h1]
      show (if I 47 5 + b ≤ 100000 then I 47 5 + b else -1) = _
      rw [e, if_pos h2]
    have em : buyI (iu I 0 12 (I 0 12 + b)) 47 5 b = iu (iu I 0 12 (I 0 12 + b)) 47 5 (I 0 12 + b) := by
      unfold buyI
      rw [if_neg h1]
      show (if I 47 5 + b ≤ 100000 then iu _ 47 5 (I 47 5 + b) else _) = _
      rw [e, if_pos h2]
    rw [ei, er, ea, em]
    exact ⟨rfl, ⟨⟨h.st, h.wp, ((h.bl.iu (by have := h.st.len; omega)).iu (by have := h.st.len; omega))⟩, ⟨h.sc.1, h.sc.2.1, h.sc.2.2.1, h.sc.2.2.2.1, h.sc.2.2.2.2.1, rfl, h.sc.2.2.2.2.2.2⟩, h.rws, (h.kd.fr (fun a h1 h2 => by rw [iu_ne a (by omega), iu_ne a (by omega)]) (fun a h1 h2 => by rw [iu_ne a (by omega), iu_ne a (by omega)])), (h.pots.fr (fun a h1 h2 => by rw [iu_ne a (by omega), iu_ne a (by omega)]) (fun a h1 h2 => by rw [iu_ne a (by omega), iu_ne a (by omega)]) (Nat.le_refl _)), h.tx, h.shf, h.mv, (h.pc.fr (fun a h1 h2 => by rw [iu_ne a (by omega), iu_ne a (by omega)]) (fun a h1 => by rw [iu_ne a (by omega), iu_ne a (by omega)]) (fun b hb => by rw [iu_ne (31 + 2 * b) (by omega), iu_ne (31 + 2 * b) (by omega)]) rfl rfl (Nat.le_succ c))⟩⟩
  · have h2' : ¬ I 47 5 + b ≤ 100000 := by rw [e]; exact h2
    simp only [buyR, buyI, if_neg h1, if_neg h2, if_neg h2']
    exact ⟨trivial, h.mono⟩

theorem r_cost (h : Rel sh I J R c) (s y x : Int32) : costRm (costI I s y x) s y x = costR I s y x ∧ Rel sh (costIm (costI I s y x) s y x) J R (c + 1) := by
  by_cases h1 : costOk s y x = true
  · have hk := h1
    unfold costOk at hk
    simp only [Bool.and_eq_true, Bool.not_eq_true', beq_eq_false_iff_ne, ne_eq] at hk
    obtain ⟨es, ls⟩ := ix_le (n := 4) hk.1 rfl (by decide)
    obtain ⟨ey, ly⟩ := ix_le (n := 9) hk.2.1 rfl (by decide)
    have i1 : ix (y * 5 + s) = ix y * 5 + ix s := by
      conv => lhs; rw [es, ey]
      rw [idx5]
      exact ixn (by omega)
    have i2 : ix (10 * s + y) = 10 * ix s + ix y := by
      conv => lhs; rw [es, ey]
      rw [idx10r]
      exact ixn (by omega)
    simp only [costR, costRm, costI, costIm, if_pos h1, i1, i2]
    refine ⟨h.mv.1 _ _ (by omega) (by omega), ⟨⟨h.st, h.wp, ((h.bl.iu (by have := h.st.len; omega)).iu (by have := h.st.len; omega))⟩, h.sc, h.rws, (h.kd.fr (fun a h1 h2 => by rw [iu_ne a (by omega), iu_ne a (by omega)]) (fun a h1 h2 => by rw [iu_ne a (by omega), iu_ne a (by omega)])), (h.pots.fr (fun a h1 h2 => by rw [iu_ne a (by omega), iu_ne a (by omega)]) (fun a h1 h2 => by rw [iu_ne a (by omega), iu_ne a (by omega)]) (Nat.le_refl _)), h.tx, h.shf, ⟨?_, h.mv.2⟩, (h.pc.fr (fun a h1 h2 => by rw [iu_ne a (by omega), iu_ne a (by omega)]) (fun a h1 => by rw [iu_ne a (by omega), iu_ne a (by omega)]) (fun b hb => by rw [iu_ne (31 + 2 * b) (by omega), iu_ne (31 + 2 * b) (by omega)]) rfl rfl (Nat.le_succ c))⟩⟩
    intro s' y' hs' hy'
    have := h.mv.1 s' y' hs' hy'
    by_cases e1 : s' = ix s
    · by_cases e2 : y' = ix y
      · subst e1; subst e2; simp [iu_ap]
      · have n1 : ¬ 10 * s' + y' = 10 * ix s + ix y := by omega
        have n2 : ¬ y' * 5 + s' = ix y * 5 + ix s := by omega
        simp [iu_ap, n1, n2, this]
    · have n1 : ¬ 10 * s' + y' = 10 * ix s + ix y := by omega
      have n2 : ¬ y' * 5 + s' = ix y * 5 + ix s := by omega
      simp [iu_ap, n1, n2, this]
  · simp only [costR, costRm, costI, costIm, if_neg h1]
    exact ⟨trivial, h.mono⟩

theorem r_way (h : Rel sh I J R c) (a b x : Int32) : wayRm (wayI I a b x) a b x = wayR I a b x ∧ Rel sh (wayIm (wayI I a b x) a b x) J R (c + 1) := by
  by_cases h1 : wayOk a b x = true
  · have i2 : (5 : Int32) * a + b = a * 5 + b := by rw [Int32.mul_comm]
    simp only [wayR, wayRm, wayI, wayIm, if_pos h1, i2]
    exact ⟨congrFun h.mv.2.1 _, ⟨⟨h.st, h.wp, ((h.bl.iu (by have := h.st.len; omega)).iu (by have := h.st.len; omega))⟩, h.sc, h.rws, (h.kd.fr (fun a h1 h2 => by rw [iu_ne a (by omega), iu_ne a (by omega)]) (fun a h1 h2 => by rw [iu_ne a (by omega), iu_ne a (by omega)])), (h.pots.fr (fun a h1 h2 => by rw [iu_ne a (by omega), iu_ne a (by omega)]) (fun a h1 h2 => by rw [iu_ne a (by omega), iu_ne a (by omega)]) (Nat.le_refl _)), h.tx, h.shf, ⟨h.mv.1, pair_row h.mv.2.1 (by decide), h.mv.2.2⟩, (h.pc.fr (fun a h1 h2 => by rw [iu_ne a (by omega), iu_ne a (by omega)]) (fun a h1 => by rw [iu_ne a (by omega), iu_ne a (by omega)]) (fun b hb => by rw [iu_ne (31 + 2 * b) (by omega), iu_ne (31 + 2 * b) (by omega)]) rfl rfl (Nat.le_succ c))⟩⟩
  · simp only [wayR, wayRm, wayI, wayIm, if_neg h1]
    exact ⟨trivial, h.mono⟩
end RelM
