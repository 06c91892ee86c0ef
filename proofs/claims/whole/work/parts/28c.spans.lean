/-! ===== the whole text, both ===== -/
def RES (C : IM) (M : Int32 × IM) : Prop := (M.1 = 0 ∧ ¬ C 8 8 = 0 ∧ M.2 47 41 = C 8 8) ∨ (¬ M.1 = 0 ∧ C 8 8 = 0 ∧ ∃ z, z ≤ 8 ∧ C 8 6 = nI z ∧ M.2 47 45 = nI z ∧ ∀ k, k < z → M.2 80 k = C 12 k ∧ M.2 81 k = C 13 k)
theorem SJ0.next {Ic Im : IM} {n e z k : Nat} (h : SJ0 Ic Im n e z) (hk : k < n) : SJ (iu Ic 8 7 (nI (spK (Ic 9) n (k + 1)))) (iu Im 47 40 (nI (k + 1))) n (spK (Ic 9) n (k + 1)) (k + 1) z := by
  obtain ⟨r, m, hw, hv, f1, f2, hT⟩ := h
  have bK := spK_b (T := Ic 9) (show k + 1 ≤ n by omega)
  exact ⟨r.at bK.2, m.at (by omega), spK_c hT _, hw, hv, f1, f2, hT⟩
theorem rd_eq {n : Nat} (hn : n ≤ 200) : ∀ (f : Nat) (Ic Im : IM) (i im z : Nat), z + f = 9 → SJ Ic Im n i im z → RES (rdL n f Ic i z) (rdM n f Im im z)
  | 0, Ic, Im, i, im, z, hf, h => by
    have := h.1.2.2.2.2.1
    omega
  | f + 1, Ic, Im, i, im, z, hf, h => by
    by_cases hz : rsR Ic n i z = 0
    · obtain ⟨b1, b2, b3⟩ := span_bad h hn hz
      have e1 : rdL n (f + 1) Ic i z = rsI Ic n i z := by
        show (if rsR Ic n i z = 0 then _ else _) = _
        rw [if_pos hz]
      have e2 : rdM n (f + 1) Im im z = (0, msI Im n im z) := by
        show (if msR Im n im z = 0 then _ else _) = _
        rw [if_pos b1]
      rw [e1, e2]
      exact Or.inl ⟨rfl, b3, b2⟩
    · obtain ⟨b1, b2, b3⟩ := span_ok h hn hz
      have hT := h.2.2.2.2.2.2.2
      have hin : i ≤ n := h.1.2.2.1
      have e9 : rsI Ic n i z 9 = Ic 9 := (h.1.span hz).2
      have bE := rsE_b (T := Ic 9) hin
      have bK := spK_b (T := Ic 9) bE.2
      have eK : spK (Im 77) n (msE (Im 77) n im) = spK (Ic 9) n (rsE (Ic 9) n i) := by rw [b2]; exact spK_c hT _
      by_cases g : spK (Ic 9) n (rsE (Ic 9) n i) < n
      · have eS : seeR (Im 77) n (spK (Ic 9) n (rsE (Ic 9) n i)) = Ic 9 (spK (Ic 9) n (rsE (Ic 9) n i)) := by rw [see_c hT, if_pos g]
        by_cases q : Ic 9 (spK (Ic 9) n (rsE (Ic 9) n i)) = 59
        · have e1 : rdL n (f + 1) Ic i z = rdL n f (iu (rsI Ic n i z) 8 7 (nI (spK (Ic 9) n (spK (Ic 9) n (rsE (Ic 9) n i) + 1)))) (spK (Ic 9) n (spK (Ic 9) n (rsE (Ic 9) n i) + 1)) (z + 1) := by
            show (if rsR Ic n i z = 0 then _ else if spK (Ic 9) n (rsE (Ic 9) n i) < n then (if Ic 9 (spK (Ic 9) n (rsE (Ic 9) n i)) = 59 then _ else _) else _) = _
            rw [if_neg hz, if_pos g, if_pos q]
          have e2 : rdM n (f + 1) Im im z = rdM n f (iu (msI Im n im z) 47 40 (nI (spK (Ic 9) n (rsE (Ic 9) n i) + 1))) (spK (Ic 9) n (rsE (Ic 9) n i) + 1) (z + 1) := by
            rw [rdM, if_neg b1, eK, if_pos g, eS, if_pos q]
          have hS := b3.next g
          rw [e9] at hS
          rw [e1, e2]
          exact rd_eq hn f _ _ _ _ _ (by omega) hS
        · have e1 : rdL n (f + 1) Ic i z = failI (iu (rsI Ic n i z) 8 7 (nI (spK (Ic 9) n (rsE (Ic 9) n i)))) (nI (spK (Ic 9) n (rsE (Ic 9) n i))) 0 := by
            show (if rsR Ic n i z = 0 then _ else if spK (Ic 9) n (rsE (Ic 9) n i) < n then (if Ic 9 (spK (Ic 9) n (rsE (Ic 9) n i)) = 59 then _ else _) else _) = _
            rw [if_neg hz, if_pos g, if_neg q]
          have ef : failsI (iu (msI Im n im z) 47 40 (nI (spK (Ic 9) n (rsE (Ic 9) n i)))) 0 (nI (spK (Ic 9) n (rsE (Ic 9) n i))) 47 41 = 1 + 8 * nI (spK (Ic 9) n (rsE (Ic 9) n i)) + 0 := by
            unfold failsI
            rw [if_pos (show iu (msI Im n im z) 47 40 (nI (spK (Ic 9) n (rsE (Ic 9) n i))) 47 41 = 0 from b3.2.2.2.2.1), iu_same]
          have e2 : rdM n (f + 1) Im im z = (0, iu (failsI (iu (msI Im n im z) 47 40 (nI (spK (Ic 9) n (rsE (Ic 9) n i)))) 0 (nI (spK (Ic 9) n (rsE (Ic 9) n i)))) 47 40 (failsI (iu (msI Im n im z) 47 40 (nI (spK (Ic 9) n (rsE (Ic 9) n i)))) 0 (nI (spK (Ic 9) n (rsE (Ic 9) n i))) 47 40 + 1)) := by
            rw [rdM, if_neg b1, eK, if_pos g, eS, if_neg q]
          rw [e1, e2]
          have e3 : failI (iu (rsI Ic n i z) 8 7 (nI (spK (Ic 9) n (rsE (Ic 9) n i)))) (nI (spK (Ic 9) n (rsE (Ic 9) n i))) 0 8 8 = 1 + 8 * nI (spK (Ic 9) n (rsE (Ic 9) n i)) + 0 := iu_same
          refine Or.inl ⟨rfl, ?_, ?_⟩
          · rw [e3]; exact f_nz (w := 0) (by omega) (by decide)
          · rw [e3]
            dsimp only
            rw [iu_k (by decide), ef]
      · have e1 : rdL n (f + 1) Ic i z = iu (rsI Ic n i z) 8 7 (nI (spK (Ic 9) n (rsE (Ic 9) n i))) := by
          show (if rsR Ic n i z = 0 then _ else if spK (Ic 9) n (rsE (Ic 9) n i) < n then _ else _) = _
          rw [if_neg hz, if_neg g]
        have e2 : rdM n (f + 1) Im im z = (1, iu (msI Im n im z) 47 40 (nI (spK (Ic 9) n (rsE (Ic 9) n i)))) := by
          rw [rdM, if_neg b1, eK, if_neg g]
        rw [e1, e2]
        obtain ⟨r, m, hw, hv, f1, f2, _⟩ := b3
        exact Or.inr ⟨(show ¬ (1 : Int32) = 0 by decide), f2, z + 1, r.2.2.2.2.1, r.2.2.2.1, m.2.2.2.1, hv⟩
section SpO
variable {I : IM} {n : Nat}
theorem numI_o {a i j : Nat} {v : Int32} (h : a ≠ 8) : numI I i j v a = I a := by
  unfold numI failI
  repeat' split
  all_goals simp only [iu_ne a h]
theorem rsI_o {a i z : Nat} (h8 : a ≠ 8) (h : a < 10 ∨ 13 < a) : rsI I n i z a = I a := by
  rw [rsI_eq]
  unfold failI keepI
  repeat' split
  all_goals first
    | rw [numI_o h8, iu_ne a h8]
    | rw [iu_ne a h8, iu_ne a h8]
    | rw [iu_ne a h8, iu_ne a (by omega), iu_ne a (by omega), iu_ne a (by omega), iu_ne a (by omega), iu_ne a h8]
theorem rdL_o {a : Nat} (h8 : a ≠ 8) (h : a < 10 ∨ 13 < a) : ∀ (f : Nat) (I : IM) (i z : Nat), rdL n f I i z a = I a
  | 0, _, _, _ => rfl
  | f + 1, I, i, z => by
    unfold rdL
    split
    · exact rsI_o h8 h
    · split
      · split
        · rw [rdL_o h8 h f, iu_ne a h8, rsI_o h8 h]
        · unfold failI
          rw [iu_ne a h8, iu_ne a h8, rsI_o h8 h]
      · rw [iu_ne a h8, rsI_o h8 h]
theorem readI_o {a : Nat} (h8 : a ≠ 8) (h : a < 10 ∨ 13 < a) : readI I n a = I a := by
  unfold readI
  split
  · rw [rdL_o h8 h, iu_ne a h8, iu_ne a h8, iu_ne a h8, iu_ne a h8]
  · rw [iu_ne a h8, iu_ne a h8, iu_ne a h8, iu_ne a h8]
theorem failsI_o {a : Nat} {w p : Int32} (h : a ≠ 47) : failsI I w p a = I a := by
  unfold failsI
  split
  · rw [iu_ne a h]
  · rfl
theorem failsI_48 {j : Nat} {w p : Int32} (h : j ≠ 41) : failsI I w p 47 j = I 47 j := by
  unfold failsI
  split
  · rw [iu_k h]
  · rfl
def slot48 (j : Nat) : Prop := j ≠ 40 ∧ j ≠ 41 ∧ j ≠ 45 ∧ j ≠ 50
theorem nbB_o {a i : Nat} (h : a ≠ 47) : nbB I n i a = I a := by
  unfold nbB
  rw [iu_ne a h, iu_ne a h]
theorem nbB_48 {i j : Nat} (h : slot48 j) : nbB I n i 47 j = I 47 j := by
  unfold nbB
  rw [iu_k h.2.2.2, iu_k h.1]
theorem nbI_o {a i : Nat} {lo hi : Int32} (h : a ≠ 47) : nbI I n i lo hi a = I a := by
  unfold nbI
  repeat' split
  · rw [failsI_o h, iu_ne a h]
  · rw [failsI_o h, nbB_o h]
  · rw [failsI_o h, nbB_o h]
  · exact nbB_o h
theorem nbI_48 {i j : Nat} {lo hi : Int32} (h : slot48 j) : nbI I n i lo hi 47 j = I 47 j := by
  unfold nbI
  repeat' split
  · rw [failsI_48 h.2.1, iu_k h.1]
  · rw [failsI_48 h.2.1, nbB_48 h]
  · rw [failsI_48 h.2.1, nbB_48 h]
  · exact nbB_48 h
theorem ms2_o {a i z : Nat} (h : a ≠ 47) (h1 : a < 80 ∨ 83 < a) : ms2 I n i z a = I a := by
  unfold ms2
  rw [iu_ne a (by omega), iu_ne a (by omega), iu_ne a h]
theorem ms2_48 {i z j : Nat} (h : slot48 j) : ms2 I n i z 47 j = I 47 j := by
  unfold ms2
  rw [iu_o (by decide), iu_o (by decide), iu_k h.1]
theorem ms4_o {a i z : Nat} (h : a ≠ 47) (h1 : a < 80 ∨ 83 < a) : ms4 I n i z a = I a := by
  unfold ms4
  rw [iu_ne a (by omega), iu_ne a h, iu_ne a h, ms2_o h h1]
theorem ms4_48 {i z j : Nat} (h : slot48 j) : ms4 I n i z 47 j = I 47 j := by
  unfold ms4
  rw [iu_o (by decide), iu_k h.2.2.2, iu_k h.1, ms2_48 h]
theorem ms6_o {a i z : Nat} (h : a ≠ 47) (h1 : a < 80 ∨ 83 < a) : ms6 I n i z a = I a := by
  unfold ms6
  rw [iu_ne a h, iu_ne a (by omega), iu_ne a h, iu_ne a h, ms4_o h h1]
theorem ms6_48 {i z j : Nat} (h : slot48 j) : ms6 I n i z 47 j = I 47 j := by
  unfold ms6
  rw [iu_k h.2.2.1, iu_o (by decide), iu_k h.2.2.2, iu_k h.1, ms4_48 h]
theorem msI_o {a i z : Nat} (h : a ≠ 47) (h1 : a < 80 ∨ 83 < a) : msI I n i z a = I a := by
  unfold msI
  repeat' split
  all_goals first
    | rw [failsI_o h, iu_ne a h]
    | rw [nbI_o h, ms2_o h h1]
    | rw [nbI_o h, ms4_o h h1]
    | exact ms6_o h h1
theorem msI_48 {i z j : Nat} (h : slot48 j) : msI I n i z 47 j = I 47 j := by
  unfold msI
  repeat' split
  all_goals first
    | rw [failsI_48 h.2.1, iu_k h.1]
    | rw [nbI_48 h, ms2_48 h]
    | rw [nbI_48 h, ms4_48 h]
    | exact ms6_48 h
theorem rdM_o {a : Nat} (h : a ≠ 47) (h1 : a < 80 ∨ 83 < a) : ∀ (f : Nat) (I : IM) (i z : Nat), (rdM n f I i z).2 a = I a
  | 0, _, _, _ => rfl
  | f + 1, I, i, z => by
    unfold rdM
    split
    · exact msI_o h h1
    · split
      · split
        · rw [rdM_o h h1 f, iu_ne a h, msI_o h h1]
        · show iu (failsI _ _ _) 47 40 _ a = _
          rw [iu_ne a h, failsI_o h, iu_ne a h, msI_o h h1]
      · show iu _ 47 40 _ a = _
        rw [iu_ne a h, msI_o h h1]
theorem rdM_48 {j : Nat} (h : slot48 j) : ∀ (f : Nat) (I : IM) (i z : Nat), (rdM n f I i z).2 47 j = I 47 j
  | 0, _, _, _ => rfl
  | f + 1, I, i, z => by
    unfold rdM
    split
    · exact msI_48 h
    · split
      · split
        · rw [rdM_48 h f, iu_k h.1, msI_48 h]
        · show iu (failsI _ _ _) 47 40 _ 47 j = _
          rw [iu_k h.1, failsI_48 h.2.1, iu_k h.1, msI_48 h]
      · show iu _ 47 40 _ 47 j = _
        rw [iu_k h.1, msI_48 h]
theorem readM_o {a : Nat} (h : a ≠ 47) (h1 : a < 80 ∨ 83 < a) : (readM I n).2 a = I a := by
  unfold readM
  split
  · rw [rdM_o h h1, iu_ne a h, iu_ne a h, iu_ne a h, iu_ne a h]
  · show iu (iu (iu (iu I 47 40 0) 47 41 0) 47 45 0) 47 40 _ a = _
    rw [iu_ne a h, iu_ne a h, iu_ne a h, iu_ne a h]
theorem readM_48 {j : Nat} (h : slot48 j) : (readM I n).2 47 j = I 47 j := by
  unfold readM
  split
  · rw [rdM_48 h, iu_k h.1, iu_k h.2.2.1, iu_k h.2.1, iu_k h.1]
  · show iu (iu (iu (iu I 47 40 0) 47 41 0) 47 45 0) 47 40 _ 47 j = _
    rw [iu_k h.1, iu_k h.2.2.1, iu_k h.2.1, iu_k h.1]
theorem takeL_v : ∀ (m k : Nat) (I : IM) (j : Nat), takeL m k I 15 j = (if k ≤ j ∧ j < k + m then I 12 j else I 15 j) ∧ takeL m k I 16 j = (if k ≤ j ∧ j < k + m then I 13 j else I 16 j)
  | 0, k, I, j => by
    rw [if_neg (by omega), if_neg (by omega)]
    exact ⟨rfl, rfl⟩
  | m + 1, k, I, j => by
    obtain ⟨i1, i2⟩ := takeL_v m (k + 1) (iu (iu I 15 k (I 12 k)) 16 k (I 13 k)) j
    show takeL m (k + 1) (iu (iu I 15 k (I 12 k)) 16 k (I 13 k)) 15 j = _ ∧ takeL m (k + 1) (iu (iu I 15 k (I 12 k)) 16 k (I 13 k)) 16 j = _
    rw [i1, i2]
    by_cases e : j = k
    · subst e
      rw [if_neg (by omega), if_pos (by omega), if_neg (by omega), if_pos (by omega)]
      exact ⟨by simp [iu_ap], by simp [iu_ap]⟩
    · by_cases g : k + 1 ≤ j ∧ j < k + 1 + m
      · rw [if_pos g, if_pos (by omega), if_pos g, if_pos (by omega)]
        exact ⟨rfl, rfl⟩
      · rw [if_neg g, if_neg (by omega), if_neg g, if_neg (by omega)]
        exact ⟨by simp [iu_ap, e], by simp [iu_ap, e]⟩
theorem takeM_v : ∀ (m k : Nat) (I : IM) (j : Nat), takeM m k I 78 j = (if k ≤ j ∧ j < k + m then I 80 j else I 78 j) ∧ takeM m k I 79 j = (if k ≤ j ∧ j < k + m then I 81 j else I 79 j)
  | 0, k, I, j => by
    rw [if_neg (by omega), if_neg (by omega)]
    exact ⟨rfl, rfl⟩
  | m + 1, k, I, j => by
    obtain ⟨i1, i2⟩ := takeM_v m (k + 1) (iu (iu I 78 k (I 80 k)) 79 k (I 81 k)) j
    show takeM m (k + 1) (iu (iu I 78 k (I 80 k)) 79 k (I 81 k)) 78 j = _ ∧ takeM m (k + 1) (iu (iu I 78 k (I 80 k)) 79 k (I 81 k)) 79 j = _
    rw [i1, i2]
    by_cases e : j = k
    · subst e
      rw [if_neg (by omega), if_pos (by omega), if_neg (by omega), if_pos (by omega)]
      exact ⟨by simp [iu_ap], by simp [iu_ap]⟩
    · by_cases g : k + 1 ≤ j ∧ j < k + 1 + m
      · rw [if_pos g, if_pos (by omega), if_pos g, if_pos (by omega)]
        exact ⟨rfl, rfl⟩
      · rw [if_neg g, if_neg (by omega), if_neg g, if_neg (by omega)]
        exact ⟨by simp [iu_ap, e], by simp [iu_ap, e]⟩
theorem spansI_o {a : Nat} (h8 : a ≠ 8) (h : a < 10 ∨ 16 < a) : spansI I n a = I a := by
  unfold spansI
  split
  · rw [takeL_o (by omega) (by omega), iu_ne a (by omega), iu_ne a h8, readI_o h8 (by omega)]
  · rw [iu_ne a h8, readI_o h8 (by omega)]
theorem spansI_8 : spansI I n 8 5 = 0 := by
  unfold spansI
  split
  · rw [takeL_o (by decide) (by decide), iu_ne 8 (by decide), iu_same]
  · exact iu_same
theorem spansMI_o {a : Nat} (h : a ≠ 47) (h1 : a < 78 ∨ 83 < a) : spansMI I n a = I a := by
  unfold spansMI
  split
  · rw [iu_ne a h, readM_o h (by omega)]
  · rw [takeM_o (by omega) (by omega), iu_ne a h, iu_ne a h, readM_o h (by omega)]
theorem spansMI_48 {j : Nat} (h : slot48 j) (h1 : j ≠ 39) (h2 : j ≠ 42) : spansMI I n 47 j = I 47 j := by
  unfold spansMI
  split
  · rw [iu_k h1, readM_48 h]
  · rw [takeM_o (by decide) (by decide), iu_k h2, iu_k h1, readM_48 h]
theorem spansMI_39 : spansMI I n 47 39 = 0 := by
  unfold spansMI
  split
  · exact iu_same
  · rw [takeM_o (by decide) (by decide), iu_k (by decide), iu_same]
end SpO
section RelS
variable {sh : List Sh} {I : IM} {J : JM} {R : RM} {c n : Nat}
theorem read_res (h : Rel sh I J R c) (hn : I 8 5 = nI n) (hl : n ≤ 200) {I1 : IM} (ho : ∀ a, 17 ≤ a → I1 a = I a) : RES (readI I n) (readM I1 n) := by
  have e39 : I1 47 39 = nI n := by rw [ho 47 (by decide), h.tx.1.eq]; exact hn
  have e78 : I1 77 = I 77 := ho 77 (by decide)
  have hT : ∀ k, BY (I 9 k) (I1 77 k) := by rw [e78]; exact h.tx.2.1
  have eK : spK (I1 77) n 0 = spK (I 9) n 0 := spK_c hT 0
  have bK := spK_b (T := I 9) (Nat.zero_le n)
  unfold readI readM
  rw [eK]
  by_cases g : spK (I 9) n 0 < n
  · rw [if_pos g, if_pos g]
    refine rd_eq hl 9 _ _ _ _ 0 (by omega) ⟨⟨hn, iu_same, bK.2, rfl, by decide, fun k hk => absurd hk (Nat.not_lt_zero _)⟩, ⟨e39, iu_same, bK.2, rfl, by decide, fun k hk => absurd hk (Nat.not_lt_zero _)⟩, ?_, fun k hk => absurd hk (Nat.not_lt_zero _), fun k hk => absurd hk (Nat.not_lt_zero _), rfl, rfl, hT⟩
    show spK (I1 77) n (spK (I 9) n 0) = spK (I 9) n 0
    rw [spK_c hT]
    exact spK_spK
  · rw [if_neg g, if_neg g]
    exact Or.inr ⟨(show ¬ (1 : Int32) = 0 by decide), rfl, 0, by decide, rfl, rfl, fun k hk => absurd hk (Nat.not_lt_zero _)⟩
theorem r_spans (h : Rel sh I J R c) (hn : I 8 5 = nI n) (hl : n ≤ 200) : spansMR (spansI I n) n = spansR I n ∧ Rel sh (spansMI (spansI I n) n) J R (c + 1) := by
  have hl91 := h.st.len
  have ho : ∀ a, 17 ≤ a → spansI I n a = I a := fun a ha => spansI_o (by omega) (by omega)
  have hres := read_res h hn hl ho
  have go : ∀ a, a ≠ 8 → (a < 10 ∨ 16 < a) → a ≠ 47 → (a < 78 ∨ 83 < a) → spansMI (spansI I n) n a = I a := fun a k1 k2 k3 k4 => by rw [spansMI_o k3 k4, spansI_o k1 k2]
  have g48 : ∀ j, slot48 j → j ≠ 39 → j ≠ 42 → spansMI (spansI I n) n 47 j = I 47 j := fun j k1 k2 k3 => by rw [spansMI_48 k1 k2 k3, ho 47 (by decide)]
  have g8 : spansMI (spansI I n) n 8 5 = 0 := by rw [spansMI_o (by decide) (by decide)]; exact spansI_8
  have key : spansMR (spansI I n) n = spansR I n ∧ RN (spansMI (spansI I n) n 14 2) (spansMI (spansI I n) n 47 42) 8 ∧ spansMI (spansI I n) n 78 = spansMI (spansI I n) n 15 ∧ spansMI (spansI I n) n 79 = spansMI (spansI I n) n 16 := by
    have c14 : spansMI (spansI I n) n 14 = spansI I n 14 := spansMI_o (by decide) (by decide)
    have c15 : spansMI (spansI I n) n 15 = spansI I n 15 := spansMI_o (by decide) (by decide)
    have c16 : spansMI (spansI I n) n 16 = spansI I n 16 := spansMI_o (by decide) (by decide)
    rw [c14, c15, c16]
    have s42 : slot48 42 := by unfold slot48; decide
    rcases hres with ⟨m1, m2, m3⟩ | ⟨m1, m2, z, hz, z1, z2, z3⟩
    · have eI : spansI I n = iu (readI I n) 8 5 0 := by unfold spansI; rw [if_neg m2]
      have eM : spansMI (spansI I n) n = iu (readM (spansI I n) n).2 47 39 0 := by unfold spansMI; rw [if_pos m1]
      refine ⟨?_, ?_, ?_, ?_⟩
      · unfold spansMR spansR
        rw [if_pos m1, if_neg m2, m3]
      · rw [eM, iu_k (by decide), readM_48 s42, ho 47 (by decide), eI, iu_ne 14 (by decide), readI_o (by decide) (by decide)]
        exact h.tx.2.2.1
      · rw [eM, iu_ne 78 (by decide), readM_o (by decide) (by decide), ho 78 (by decide), eI, iu_ne 15 (by decide), readI_o (by decide) (by decide)]
        exact h.tx.2.2.2.1
      · rw [eM, iu_ne 79 (by decide), readM_o (by decide) (by decide), ho 79 (by decide), eI, iu_ne 16 (by decide), readI_o (by decide) (by decide)]
        exact h.tx.2.2.2.2
    · have eI : spansI I n = takeL z 0 (iu (iu (readI I n) 8 5 0) 14 2 (nI z)) := by unfold spansI; rw [if_pos m2, z1, ixn (by omega)]
      have eM : spansMI (spansI I n) n = takeM z 0 (iu (iu (readM (spansI I n) n).2 47 39 0) 47 42 (nI z)) := by unfold spansMI; rw [if_neg m1, z2, ixn (by omega)]
      refine ⟨?_, ⟨z, hz, ?_, ?_⟩, ?_, ?_⟩
      · unfold spansMR spansR
        rw [if_neg m1, if_pos m2, z1, z2]
      · rw [eI, takeL_o (by decide) (by decide), iu_same]
      · rw [eM, takeM_o (by decide) (by decide), iu_same]
      · funext j
        have a1 : spansI I n 15 j = if 0 ≤ j ∧ j < 0 + z then readI I n 12 j else I 15 j := by
          rw [eI, (takeL_v z 0 _ j).1]
          show (if 0 ≤ j ∧ j < 0 + z then readI I n 12 j else readI I n 15 j) = _
          rw [readI_o (a := 15) (by decide) (by decide)]
        have a2 : spansMI (spansI I n) n 78 j = if 0 ≤ j ∧ j < 0 + z then (readM (spansI I n) n).2 80 j else I 78 j := by
          rw [eM, (takeM_v z 0 _ j).1]
          show (if 0 ≤ j ∧ j < 0 + z then (readM (spansI I n) n).2 80 j else (readM (spansI I n) n).2 78 j) = _
          rw [readM_o (a := 78) (by decide) (by decide), ho 78 (by decide)]
        rw [a1, a2]
        split
        · rename_i q; exact (z3 j (by omega)).1
        · rw [h.tx.2.2.2.1]
      · funext j
        have a1 : spansI I n 16 j = if 0 ≤ j ∧ j < 0 + z then readI I n 13 j else I 16 j := by
          rw [eI, (takeL_v z 0 _ j).2]
          show (if 0 ≤ j ∧ j < 0 + z then readI I n 13 j else readI I n 16 j) = _
          rw [readI_o (a := 16) (by decide) (by decide)]
        have a2 : spansMI (spansI I n) n 79 j = if 0 ≤ j ∧ j < 0 + z then (readM (spansI I n) n).2 81 j else I 79 j := by
          rw [eM, (takeM_v z 0 _ j).2]
          show (if 0 ≤ j ∧ j < 0 + z then (readM (spansI I n) n).2 81 j else (readM (spansI I n) n).2 79 j) = _
          rw [readM_o (a := 79) (by decide) (by decide), ho 79 (by decide)]
        rw [a1, a2]
        split
        · rename_i q; exact (z3 j (by omega)).2
        · rw [h.tx.2.2.2.2]
  refine ⟨key.1, ⟨h.st, h.wp, h.bl.of (fun a ha => go a (by omega) (by omega) (by omega) (by omega)) (fun _ _ => rfl) (fun _ _ => rfl)⟩, h.sc.fr (fun a ha => go a (by omega) (by omega) (by omega) (by omega)) (fun k hk => g48 k (by unfold slot48; omega) (by omega) (by omega)), h.rws.fr (fun a ha => go a (by omega) (by omega) (by omega) (by omega)), h.kd.fr (fun a k1 k2 => go a (by omega) (by omega) (by omega) (by omega)) (fun a k1 k2 => go a (by omega) (by omega) (by omega) (by omega)), h.pots.fr (fun a k1 k2 => go a (by omega) (by omega) (by omega) (by omega)) (fun a k1 k2 => go a (by omega) (by omega) (by omega) (by omega)) (by rw [go 0 (by decide) (by decide) (by decide) (by decide)]; exact Nat.le_refl _), ⟨⟨0, by decide, g8, spansMI_39⟩, ?_, key.2⟩, h.shf.fr (fun a ha => go a (by omega) (by omega) (by omega) (by omega)), h.mv.fr (by rw [go 42 (by decide) (by decide) (by decide) (by decide)]) (g48 56 (by unfold slot48; decide) (by decide) (by decide)) (fun a ha => go a (by omega) (by omega) (by omega) (by omega)), h.pc.fr (fun a k1 k2 => go a (by omega) (by omega) (by omega) (by omega)) (fun a k1 => go a (by omega) (by omega) (by omega) (by omega)) (fun b hb => go _ (by omega) (by omega) (by omega) (by omega)) (by rw [go 0 (by decide) (by decide) (by decide) (by decide)]) (g48 27 (by unfold slot48; decide) (by decide) (by decide)) (Nat.le_succ c)⟩
  rw [go 9 (by decide) (by decide) (by decide) (by decide), go 77 (by decide) (by decide) (by decide) (by decide)]
  exact h.tx.2.1
end RelS
