/-! ===== a span, both ===== -/
theorem f_nz {k w : Nat} (hk : k ≤ 200) (hw : w ≤ 2) : ¬ (1 + 8 * nI k + nI w : Int32) = 0 := by
  rw [show (1 : Int32) = nI 1 from rfl, show (8 : Int32) = nI 8 from rfl, pk_mul, nI_add, nI_add]
  exact nI_ne0 (by omega) (by omega)
theorem numI_fault {I : IM} {k e : Nat} {v : Int32} (h : numR k e v = -1) (hv : 0 ≤ v) : numI I k e v 8 8 = 1 + 8 * nI k + (if nI e = nI k then 0 else 1) := by
  unfold numR at h
  unfold numI
  by_cases h1 : nI e = nI k
  · rw [if_pos h1, if_pos h1]; exact iu_same
  rw [if_neg h1] at h ⊢
  rw [if_neg h1]
  by_cases h2 : 3 < nI e - nI k
  · rw [if_pos h2]; exact iu_same
  rw [if_neg h2] at h ⊢
  by_cases h3 : v ≤ 100
  · rw [if_pos h3] at h
    rw [h] at hv
    exact absurd hv (by decide)
  · rw [if_neg h3]; exact iu_same
theorem nb_fault {I : IM} {n i : Nat} {lo hi : Int32} (h : nbR I n i lo hi = 0) (h0 : I 47 41 = 0) : nbI I n i lo hi 47 41 = 1 + 8 * nI (seeJ I n i) + (if wI (seeR (I 77) n (seeJ I n i)) 48 57 = 0 then 0 else 1) := by
  have hf : ∀ (X : IM) (w p : Int32), X 47 41 = 0 → failsI X w p 47 41 = 1 + 8 * p + w := fun X w p hX => by
    unfold failsI
    rw [if_pos hX, iu_same]
  have hB : nbB I n i 47 41 = 0 := h0
  unfold nbR at h
  unfold nbI
  by_cases c1 : wI (seeR (I 77) n (seeJ I n i)) 48 57 = 0
  · rw [if_pos c1, if_pos c1]; exact hf _ _ _ h0
  rw [if_neg c1] at h ⊢
  rw [if_neg c1]
  by_cases c2 : 3 < (numM (I 77) n (n - seeJ I n i) (seeJ I n i) 0 0).2.1
  · rw [if_pos c2]; exact hf _ _ _ hB
  rw [if_neg c2] at h ⊢
  by_cases c3 : wI (numM (I 77) n (n - seeJ I n i) (seeJ I n i) 0 0).2.2 lo hi = 0
  · rw [if_pos c3]; exact hf _ _ _ hB
  · rw [if_neg c3] at h; exact absurd h (by decide)
theorem told_eq {T U : Nat → Int32} {n a b z : Nat} {wf wb ra rs : Nat → Int32} (hT : ∀ k, BY (T k) (U k)) (hab : a ≤ b) (hb : b ≤ n) (hn : n ≤ 200) (hw : ∀ k, k < z → ∃ x y : Nat, x ≤ y ∧ y ≤ n ∧ wf k = nI x ∧ wb k = nI y ∧ ra k = nI x ∧ rs k = nI (y - x)) : ∀ (m k : Nat), k + m ≤ z → twF U ra rs a (b - a) m k = toldF T wf wb a b m k
  | 0, _, _ => rfl
  | m + 1, k, h => by
    obtain ⟨x, y, h1, h2, h3, h4, h5, h6⟩ := hw k (by omega)
    unfold twF toldF
    rw [told_eq hT hab hb hn hw m (k + 1) (by omega), h3, h4, h5, h6, pk_sub h1, pk_sub hab, sameF_c hT]
theorem v_nn {T : Nat → Int32} {n : Nat} : ∀ (f k : Nat) (v : Int32), 0 ≤ v → v ≤ 101 → 0 ≤ (numC T n f k v).2 ∧ (numC T n f k v).2 ≤ 101
  | 0, _, _, h, h2 => ⟨h, h2⟩
  | f + 1, k, v, h, h2 => by
    unfold numC
    split
    · rename_i g
      have hd := of_decide_eq_true g.2
      have hd' := wI_int hd
      have e48 : (48 : Int32).toInt = 48 := by decide
      have e57 : (57 : Int32).toInt = 57 := by decide
      have e0 : (0 : Int32).toInt = 0 := by decide
      have e101 : (101 : Int32).toInt = 101 := by decide
      have e10 : (10 : Int32).toInt = 10 := by decide
      rw [e48, e57] at hd'
      rw [Int32.le_iff_toInt_le, e0] at h
      rw [Int32.le_iff_toInt_le, e101] at h2
      have m1 : (10 * v).toInt = 10 * v.toInt := by rw [mul_toInt (by rw [e10]; omega) (by rw [e10]; omega), e10]
      have m2 : (10 * v + T k).toInt = 10 * v.toInt + (T k).toInt := by rw [add_toInt (by omega) (by omega), m1]
      have m3 : (10 * v + T k - 48).toInt = 10 * v.toInt + (T k).toInt - 48 := by rw [sub_toInt (by omega) (by omega), m2, e48]
      apply v_nn f (k + 1)
      · unfold mn
        split
        · rw [Int32.le_iff_toInt_le, m3, e0]; omega
        · decide
      · unfold mn
        split
        · rename_i q
          exact Int32.le_of_lt q
        · exact Int32.le_refl _
    · exact ⟨h, h2⟩
theorem spN_nn {T : Nat → Int32} {n k : Nat} : 0 ≤ (spN T n k).2 := (v_nn (n - k) k 0 (by decide) (by decide)).1
def cK1 (T : Nat → Int32) (n i : Nat) : Nat := spK T n (spJ T n i)
def cE1 (T : Nat → Int32) (n i : Nat) : Nat := (spN T n (cK1 T n i)).1
def cN1 (T : Nat → Int32) (n i : Nat) : Int32 := numR (cK1 T n i) (spN T n (cK1 T n i)).1 (spN T n (cK1 T n i)).2
def cK2 (T : Nat → Int32) (n i : Nat) : Nat := spK T n (cE1 T n i)
def cN2 (T : Nat → Int32) (n i : Nat) : Int32 := numR (cK2 T n i) (spN T n (cK2 T n i)).1 (spN T n (cK2 T n i)).2
theorem rsR_eq {I : IM} {n i z : Nat} : rsR I n i z = if nI (spJ (I 9) n i) = nI i then 0 else if nI (spJ (I 9) n i) - nI i ≤ 10 then (if 8 ≤ nI z then 0 else if toldF (I 9) (I 10) (I 11) i (spJ (I 9) n i) z 0 = 0 then (if cN1 (I 9) n i = -1 then 0 else if cN2 (I 9) n i = -1 then 0 else if cN1 (I 9) n i ≤ cN2 (I 9) n i then 1 else 0) else 0) else 0 := rfl
theorem rsI_eq {I : IM} {n i z : Nat} : rsI I n i z = if nI (spJ (I 9) n i) = nI i then failI (iu I 8 7 (nI (spJ (I 9) n i))) (nI i) 0 else if nI (spJ (I 9) n i) - nI i ≤ 10 then (if 8 ≤ nI z then failI (iu I 8 7 (nI (spJ (I 9) n i))) (nI i) 2 else if toldF (I 9) (I 10) (I 11) i (spJ (I 9) n i) z 0 = 0 then (if cN1 (I 9) n i = -1 then numI (iu I 8 7 (nI (cK1 (I 9) n i))) (cK1 (I 9) n i) (spN (I 9) n (cK1 (I 9) n i)).1 (spN (I 9) n (cK1 (I 9) n i)).2 else if cN2 (I 9) n i = -1 then numI (iu I 8 7 (nI (cK2 (I 9) n i))) (cK2 (I 9) n i) (spN (I 9) n (cK2 (I 9) n i)).1 (spN (I 9) n (cK2 (I 9) n i)).2 else if cN1 (I 9) n i ≤ cN2 (I 9) n i then keepI (iu I 8 7 (nI (rsE (I 9) n i))) z (nI i) (nI (spJ (I 9) n i)) (cN1 (I 9) n i) (cN2 (I 9) n i) else failI (iu I 8 7 (nI (rsE (I 9) n i))) (nI (cK2 (I 9) n i)) 1) else failI (iu I 8 7 (nI (spJ (I 9) n i))) (nI i) 2) else failI (iu I 8 7 (nI (spJ (I 9) n i))) (nI i) 1 := rfl
def SJ (Ic Im : IM) (n i im z : Nat) : Prop := RInv Ic n i z ∧ MInv Im n im z ∧ spK (Im 77) n im = i ∧ (∀ k, k < z → ∃ x y : Nat, x ≤ y ∧ y ≤ n ∧ Ic 10 k = nI x ∧ Ic 11 k = nI y ∧ Im 82 k = nI x ∧ Im 83 k = nI (y - x)) ∧ (∀ k, k < z → Im 80 k = Ic 12 k ∧ Im 81 k = Ic 13 k) ∧ Im 47 41 = 0 ∧ Ic 8 8 = 0 ∧ ∀ k, BY (Ic 9 k) (Im 77 k)
section Sp
variable {Ic Im : IM} {n i im z : Nat}
/-- all that a span's answer hangs on -/
theorem span_facts (h : SJ Ic Im n i im z) (hn : n ≤ 200) : seeJ Im n im = i ∧ spJ (Im 77) n i = spJ (Ic 9) n i ∧ i ≤ spJ (Ic 9) n i ∧ spJ (Ic 9) n i ≤ n ∧ (nI (spJ (Ic 9) n i - i) = 0 ↔ nI (spJ (Ic 9) n i) = nI i) ∧ nI (spJ (Ic 9) n i) - nI i = nI (spJ (Ic 9) n i - i) ∧ (nI z = 8 ↔ 8 ≤ nI z) ∧ twF (Im 77) (Im 82) (Im 83) i (spJ (Ic 9) n i - i) z 0 = toldF (Ic 9) (Ic 10) (Ic 11) i (spJ (Ic 9) n i) z 0 := by
  obtain ⟨r, m, hi, hw, hv, f1, f2, hT⟩ := h
  have hin : i ≤ n := r.2.2.1
  have hz : z ≤ 8 := r.2.2.2.2.1
  have bJ := spJ_b (T := Ic 9) hin
  refine ⟨hi, spJ_c hT i, bJ.1, bJ.2, ?_, pk_sub bJ.1, ?_, ?_⟩
  · rw [show (0 : Int32) = nI 0 from rfl, nI_eq (by omega) (by omega), nI_eq (by omega) (by omega)]
    omega
  · rw [show (8 : Int32) = nI 8 from rfl, nI_eq (by omega) (by omega), nI_leI (by omega) (by omega)]
    omega
  · exact told_eq hT bJ.1 bJ.2 hn hw z 0 (by omega)
theorem span_nums (h : SJ Ic Im n i im z) (hn : n ≤ 200) :
    (cN1 (Ic 9) n i = -1 ∧ nbR (ms2 Im n im z) n (spJ (Ic 9) n i) 0 100 = 0) ∨
    (∃ x, x ≤ 100 ∧ cN1 (Ic 9) n i = nI x ∧ ¬ nbR (ms2 Im n im z) n (spJ (Ic 9) n i) 0 100 = 0 ∧ v1M (Im 77) n (spJ (Ic 9) n i) = nI x ∧ k1M (Im 77) n (spJ (Ic 9) n i) = cE1 (Ic 9) n i ∧ k1M (Im 77) n (cE1 (Ic 9) n i) = rsE (Ic 9) n i ∧
      (¬ nbR (ms4 Im n im z) n (cE1 (Ic 9) n i) (nI x) 100 = 0 ↔ ∃ y, y ≤ 100 ∧ x ≤ y ∧ cN2 (Ic 9) n i = nI y) ∧
      (∀ y, y ≤ 100 → cN2 (Ic 9) n i = nI y → v1M (Im 77) n (cE1 (Ic 9) n i) = nI y) ∧ (cN2 (Ic 9) n i = -1 ∨ ∃ y, y ≤ 100 ∧ cN2 (Ic 9) n i = nI y)) := by
  obtain ⟨r, m, hi, hw, hv, f1, f2, hT⟩ := h
  have hin : i ≤ n := r.2.2.1
  have bJ := spJ_b (T := Ic 9) hin
  have bK := spK_b (T := Ic 9) bJ.2
  have bE := spN_b (T := Ic 9) bK.2
  have bK2 := spK_b (T := Ic 9) bE.2
  obtain ⟨a1, a2, a3⟩ := num_judge (n := n) hT (I := ms2 Im n im z) (i := spJ (Ic 9) n i) rfl (show seeJ (ms2 Im n im z) n (spJ (Ic 9) n i) = cK1 (Ic 9) n i from spK_c hT _) bK.2 hn (lo := 0) (by omega)
  rw [show nI 0 = (0 : Int32) from rfl] at a1
  rcases a3 with a3 | ⟨x, hx, ex⟩
  · refine Or.inl ⟨a3, ?_⟩
    rcases Classical.em (nbR (ms2 Im n im z) n (spJ (Ic 9) n i) 0 100 = 0) with q | q
    · exact q
    · obtain ⟨x, hx, _, ex⟩ := a1.mp q
      rw [a3] at ex
      exact absurd ex.symm (nI_nm1 (by omega))
  · obtain ⟨b1, b2, b3⟩ := num_judge (n := n) hT (I := ms4 Im n im z) (i := cE1 (Ic 9) n i) rfl (show seeJ (ms4 Im n im z) n (cE1 (Ic 9) n i) = cK2 (Ic 9) n i from spK_c hT _) bK2.2 hn (lo := x) hx
    refine Or.inr ⟨x, hx, ex, a1.mpr ⟨x, hx, Nat.zero_le _, ex⟩, ?_, ?_, ?_, b1, ?_, b3⟩
    · unfold v1M
      rw [spK_c hT]
      exact a2 x hx ex
    · unfold k1M
      rw [spK_c hT]
      exact (num_both hT bK.2 hn).1
    · unfold k1M
      rw [spK_c hT]
      exact (num_both hT bK2.2 hn).1
    · intro y hy ey
      unfold v1M
      rw [spK_c hT]
      exact b2 y hy ey
theorem span_bad (h : SJ Ic Im n i im z) (hn : n ≤ 200) (hz : rsR Ic n i z = 0) : msR Im n im z = 0 ∧ msI Im n im z 47 41 = rsI Ic n i z 8 8 ∧ ¬ rsI Ic n i z 8 8 = 0 := by
  obtain ⟨e1, e2, e3, e4, e5, e6, e7, e8⟩ := span_facts h hn
  have hN := span_nums h hn
  obtain ⟨r, m, hi, hw, hv, f1, f2, hT⟩ := h
  have hin : i ≤ n := r.2.2.1
  have bK := spK_b (T := Ic 9) e4
  have bE := spN_b (T := Ic 9) bK.2
  have bK2 := spK_b (T := Ic 9) bE.2
  have hf : ∀ (X : IM) (w p : Int32), X 47 41 = 0 → failsI X w p 47 41 = 1 + 8 * p + w := fun X w p hX => by
    unfold failsI
    rw [if_pos hX, iu_same]
  have hF : ∀ (X : IM) (p w : Int32), failI X p w 8 8 = 1 + 8 * p + w := fun X p w => iu_same
  have nzv : ∀ (k : Nat) (w : Int32), k ≤ n → (w = 0 ∨ w = 1 ∨ w = 2) → ¬ (1 + 8 * nI k + w) = 0 := by
    intro k w hk hw
    rcases hw with rfl | rfl | rfl
    · exact f_nz (w := 0) (by omega) (by decide)
    · exact f_nz (w := 1) (by omega) (by decide)
    · exact f_nz (w := 2) (by omega) (by decide)
  have f1' : iu Im 47 40 (nI i) 47 41 = 0 := f1
  rw [rsR_eq] at hz
  rw [rsI_eq]
  unfold msR msI
  rw [e1, e2]
  by_cases c1 : nI (spJ (Ic 9) n i) = nI i
  · rw [if_pos c1, if_pos (e5.mpr c1), if_pos (e5.mpr c1), hF, hf _ _ _ f1']
    exact ⟨rfl, rfl, nzv i 0 hin (Or.inl rfl)⟩
  have c1' : ¬ nI (spJ (Ic 9) n i - i) = 0 := fun q => c1 (e5.mp q)
  rw [if_neg c1] at hz ⊢
  rw [if_neg c1', if_neg c1']
  by_cases c2 : nI (spJ (Ic 9) n i) - nI i ≤ 10
  · have c2' : nI (spJ (Ic 9) n i - i) ≤ 10 := by rw [← e6]; exact c2
    rw [if_pos c2] at hz ⊢
    rw [if_pos c2', if_pos c2']
    by_cases c3 : 8 ≤ nI z
    · rw [if_pos c3, if_pos (e7.mpr c3), if_pos (e7.mpr c3), hF, hf _ _ _ f1']
      exact ⟨rfl, rfl, nzv i 2 hin (Or.inr (Or.inr rfl))⟩
    have c3' : ¬ nI z = 8 := fun q => c3 (e7.mp q)
    rw [if_neg c3] at hz ⊢
    rw [if_neg c3', if_neg c3', e8]
    by_cases c4 : toldF (Ic 9) (Ic 10) (Ic 11) i (spJ (Ic 9) n i) z 0 = 0
    · rw [if_pos c4] at hz ⊢
      rw [if_pos c4, if_pos c4]
      rcases hN with ⟨n1, n2⟩ | ⟨x, hx, n1, n2, n3, n4, n5, n6, n7, n8⟩
      · rw [if_pos n1, if_pos n2, if_pos n2]
        have hs : seeJ (ms2 Im n im z) n (spJ (Ic 9) n i) = cK1 (Ic 9) n i := spK_c hT _
        have hk1 : cK1 (Ic 9) n i ≤ n := bK.2
        have ef := nb_fault n2 f1
        rw [hs] at ef
        have em : (wI (seeR ((ms2 Im n im z) 77) n (cK1 (Ic 9) n i)) 48 57 = 0) ↔ nI (spN (Ic 9) n (cK1 (Ic 9) n i)).1 = nI (cK1 (Ic 9) n i) := by
          have := (num_both (n := n) hT (k := cK1 (Ic 9) n i) bK.2 hn).2.1
          rw [nI_eq (by have := bE.2; show (spN (Ic 9) n (cK1 (Ic 9) n i)).1 < _; unfold cK1; omega) (by omega)]
          exact this
        rw [ef, numI_fault n1 spN_nn]
        simp only [em]
        refine ⟨trivial, trivial, ?_⟩
        split
        · exact nzv _ 0 hk1 (Or.inl rfl)
        · exact nzv _ 1 hk1 (Or.inr (Or.inl rfl))
      · have nm : ¬ cN1 (Ic 9) n i = -1 := by rw [n1]; exact nI_nm1 (by omega)
        rw [if_neg nm] at hz ⊢
        rw [if_neg n2, if_neg n2, n3, n4]
        have hs : seeJ (ms4 Im n im z) n (cE1 (Ic 9) n i) = cK2 (Ic 9) n i := spK_c hT _
        have hk2 : cK2 (Ic 9) n i ≤ n := bK2.2
        have bE2 := spN_b (T := Ic 9) bK2.2
        have em : (wI (seeR ((ms4 Im n im z) 77) n (cK2 (Ic 9) n i)) 48 57 = 0) ↔ nI (spN (Ic 9) n (cK2 (Ic 9) n i)).1 = nI (cK2 (Ic 9) n i) := by
          have := (num_both (n := n) hT (k := cK2 (Ic 9) n i) bK2.2 hn).2.1
          rw [nI_eq (by have := bE2.2; show (spN (Ic 9) n (cK2 (Ic 9) n i)).1 < _; unfold cK2 cE1 cK1; omega) (by omega)]
          exact this
        by_cases c6 : cN2 (Ic 9) n i = -1
        · have nb : nbR (ms4 Im n im z) n (cE1 (Ic 9) n i) (nI x) 100 = 0 := by
            rcases Classical.em (nbR (ms4 Im n im z) n (cE1 (Ic 9) n i) (nI x) 100 = 0) with q | q
            · exact q
            · obtain ⟨y, hy, _, ey⟩ := n6.mp q
              rw [c6] at ey
              exact absurd ey.symm (nI_nm1 (by omega))
          have ef := nb_fault nb f1
          rw [hs] at ef
          rw [if_pos c6, if_pos nb, if_pos nb, ef, numI_fault c6 spN_nn]
          simp only [em]
          refine ⟨trivial, trivial, ?_⟩
          split
          · exact nzv _ 0 hk2 (Or.inl rfl)
          · exact nzv _ 1 hk2 (Or.inr (Or.inl rfl))
        · rw [if_neg c6] at hz ⊢
          by_cases c7 : cN1 (Ic 9) n i ≤ cN2 (Ic 9) n i
          · rw [if_pos c7] at hz
            exact absurd hz (by decide)
          · have nb : nbR (ms4 Im n im z) n (cE1 (Ic 9) n i) (nI x) 100 = 0 := by
              rcases Classical.em (nbR (ms4 Im n im z) n (cE1 (Ic 9) n i) (nI x) 100 = 0) with q | q
              · exact q
              · obtain ⟨y, hy, ly, ey⟩ := n6.mp q
                exfalso
                apply c7
                rw [n1, ey]
                exact nI_le ly (by omega)
            have ef := nb_fault nb f1
            rw [hs] at ef
            have ne2 : ¬ nI (spN (Ic 9) n (cK2 (Ic 9) n i)).1 = nI (cK2 (Ic 9) n i) := by
              intro q
              apply c6
              unfold cN2 numR
              rw [if_pos q]
            rw [if_neg c7, if_pos nb, if_pos nb, ef, if_neg (fun q => ne2 (em.mp q)), hF]
            exact ⟨rfl, rfl, nzv _ 1 hk2 (Or.inr (Or.inl rfl))⟩
    · rw [if_neg c4, if_neg c4, if_neg c4, hF, hf _ _ _ f1']
      exact ⟨rfl, rfl, nzv i 2 hin (Or.inr (Or.inr rfl))⟩
  · have c2' : ¬ nI (spJ (Ic 9) n i - i) ≤ 10 := by rw [← e6]; exact c2
    rw [if_neg c2, if_neg c2', if_neg c2', hF, hf _ _ _ f1']
    exact ⟨rfl, rfl, nzv i 1 hin (Or.inr (Or.inl rfl))⟩
def SJ0 (Ic Im : IM) (n e z : Nat) : Prop := RInv Ic n e z ∧ MInv Im n e z ∧ (∀ k, k < z → ∃ x y : Nat, x ≤ y ∧ y ≤ n ∧ Ic 10 k = nI x ∧ Ic 11 k = nI y ∧ Im 82 k = nI x ∧ Im 83 k = nI (y - x)) ∧ (∀ k, k < z → Im 80 k = Ic 12 k ∧ Im 81 k = Ic 13 k) ∧ Im 47 41 = 0 ∧ Ic 8 8 = 0 ∧ ∀ k, BY (Ic 9 k) (Im 77 k)
theorem span_ok (h : SJ Ic Im n i im z) (hn : n ≤ 200) (hz : ¬ rsR Ic n i z = 0) : ¬ msR Im n im z = 0 ∧ msE (Im 77) n im = rsE (Ic 9) n i ∧ SJ0 (rsI Ic n i z) (msI Im n im z) n (rsE (Ic 9) n i) (z + 1) := by
  obtain ⟨e1, e2, e3, e4, e5, e6, e7, e8⟩ := span_facts h hn
  have hN := span_nums h hn
  obtain ⟨r, m, hi, hw, hv, f1, f2, hT⟩ := h
  have hR0 := r.span hz
  obtain ⟨ek, _⟩ := rs_ok hz
  have hz2 := hz
  rw [rsR_eq] at hz2
  by_cases c1 : nI (spJ (Ic 9) n i) = nI i
  · rw [if_pos c1] at hz2; exact absurd rfl hz2
  rw [if_neg c1] at hz2
  by_cases c2 : nI (spJ (Ic 9) n i) - nI i ≤ 10
  case neg => rw [if_neg c2] at hz2; exact absurd rfl hz2
  rw [if_pos c2] at hz2
  by_cases c3 : 8 ≤ nI z
  · rw [if_pos c3] at hz2; exact absurd rfl hz2
  rw [if_neg c3] at hz2
  by_cases c4 : toldF (Ic 9) (Ic 10) (Ic 11) i (spJ (Ic 9) n i) z 0 = 0
  case neg => rw [if_neg c4] at hz2; exact absurd rfl hz2
  rw [if_pos c4] at hz2
  by_cases c5 : cN1 (Ic 9) n i = -1
  · rw [if_pos c5] at hz2; exact absurd rfl hz2
  rw [if_neg c5] at hz2
  by_cases c6 : cN2 (Ic 9) n i = -1
  · rw [if_pos c6] at hz2; exact absurd rfl hz2
  rw [if_neg c6] at hz2
  by_cases c7 : cN1 (Ic 9) n i ≤ cN2 (Ic 9) n i
  case neg => rw [if_neg c7] at hz2; exact absurd rfl hz2
  rcases hN with ⟨n1, _⟩ | ⟨x, hx, n1, n2, n3, n4, n5, n6, n7, n8⟩
  · exact absurd n1 c5
  rcases n8 with n8 | ⟨y, hy, ey⟩
  · exact absurd n8 c6
  have hxy : x ≤ y := by
    rw [n1, ey] at c7
    exact (nI_leI (by omega) (by omega)).mp c7
  have nb : ¬ nbR (ms4 Im n im z) n (cE1 (Ic 9) n i) (nI x) 100 = 0 := n6.mpr ⟨y, hy, hxy, ey⟩
  have n7' := n7 y hy ey
  have hm : ¬ msR Im n im z = 0 := by
    unfold msR
    rw [e1, e2, if_neg (fun q => c1 (e5.mp q)), if_pos (show nI (spJ (Ic 9) n i - i) ≤ 10 by rw [← e6]; exact c2), if_neg (fun q => c3 (e7.mp q)), e8, if_pos c4, if_neg n2, n3, n4, if_neg nb]
    decide
  have hE : msE (Im 77) n im = rsE (Ic 9) n i := by
    unfold msE
    rw [show spK (Im 77) n im = i from hi, e2, n4, n5]
  have hM0 := m.span hm
  obtain ⟨em, _⟩ := ms_ok hm
  rw [hE] at hM0
  refine ⟨hm, hE, hR0.1, hM0.1, fun k hk => ?_, fun k hk => ?_, ?_, ?_, ?_⟩
  · rw [ek, em]
    by_cases e : k = z
    · subst e
      exact ⟨i, spJ (Ic 9) n i, e3, e4, by simp [keepI, iu_ap], by simp [keepI, iu_ap], by simp [ms6, ms4, ms2, iu_ap, e1], by simp [ms6, ms4, ms2, iu_ap, e1, e2]⟩
    · obtain ⟨a, b, q1, q2, q3, q4, q5, q6⟩ := hw k (by omega)
      exact ⟨a, b, q1, q2, by simpa [keepI, iu_ap, e] using q3, by simpa [keepI, iu_ap, e] using q4, by simpa [ms6, ms4, ms2, iu_ap, e] using q5, by simpa [ms6, ms4, ms2, iu_ap, e] using q6⟩
  · rw [ek, em]
    by_cases e : k = z
    · subst e
      have a1 : ms6 Im n im k 80 k = v1M (Im 77) n (spJ (Ic 9) n i) := by simp [ms6, ms4, ms2, iu_ap, e1, e2]
      have a2 : ms6 Im n im k 81 k = v1M (Im 77) n (cE1 (Ic 9) n i) := by simp [ms6, ms4, ms2, iu_ap, e1, e2, n4]
      rw [a1, a2, n3, n7']
      constructor
      · rw [← n1]; simp [keepI, iu_ap]; rfl
      · rw [← ey]; simp [keepI, iu_ap]; rfl
    · have := hv k (by omega)
      exact ⟨by simpa [keepI, ms6, ms4, ms2, iu_ap, e] using this.1, by simpa [keepI, ms6, ms4, ms2, iu_ap, e] using this.2⟩
  · rw [em]; exact f1
  · rw [ek]; exact f2
  · rw [hR0.2, hM0.2]; exact hT
end Sp
