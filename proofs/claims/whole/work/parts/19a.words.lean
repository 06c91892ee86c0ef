/-! ===== a span of the text, the class: words ===== -/
def spJ (T : Nat → Int32) (n i : Nat) : Nat := scan plet T n (n - i) i
def spK (T : Nat → Int32) (n j : Nat) : Nat := scan pbl T n (n - j) j
def spN (T : Nat → Int32) (n k : Nat) : Nat × Int32 := numC T n (n - k) k 0
theorem spJ_b {T : Nat → Int32} {n i : Nat} (h : i ≤ n) : i ≤ spJ T n i ∧ spJ T n i ≤ n := ⟨scan_ge _ _ _ _ _, scan_le _ _ _ _ _ h⟩
theorem spK_b {T : Nat → Int32} {n i : Nat} (h : i ≤ n) : i ≤ spK T n i ∧ spK T n i ≤ n := ⟨scan_ge _ _ _ _ _, scan_le _ _ _ _ _ h⟩
theorem spN_b {T : Nat → Int32} {n i : Nat} (h : i ≤ n) : i ≤ (spN T n i).1 ∧ (spN T n i).1 ≤ n := by
  unfold spN
  rw [numC_1]
  exact ⟨scan_ge _ _ _ _ _, scan_le _ _ _ _ _ h⟩
theorem numI_ok {I : IM} {x : Int32} {i j : Nat} {v : Int32} (h : ¬ numR i j v = -1) : numI (iu I 8 7 x) i j v = iu I 8 7 (nI j) := by
  unfold numR at h
  unfold numI
  by_cases h1 : nI j = nI i
  · rw [if_pos h1] at h; exact absurd rfl h
  · rw [if_neg h1] at h ⊢
    by_cases h2 : 3 < nI j - nI i
    · rw [if_pos h2] at h; exact absurd rfl h
    · rw [if_neg h2] at h ⊢
      by_cases h3 : v ≤ 100
      · rw [if_pos h3, iu_iu]
      · rw [if_neg h3] at h; exact absurd rfl h
def rsR (I : IM) (n i z : Nat) : Int32 := if nI (spJ (I 9) n i) = nI i then 0 else if nI (spJ (I 9) n i) - nI i ≤ 10 then (if 8 ≤ nI z then 0 else if toldF (I 9) (I 10) (I 11) i (spJ (I 9) n i) z 0 = 0 then (if (numR (spK (I 9) n (spJ (I 9) n i)) (spN (I 9) n (spK (I 9) n (spJ (I 9) n i))).1 (spN (I 9) n (spK (I 9) n (spJ (I 9) n i))).2) = -1 then 0 else if (numR (spK (I 9) n (spN (I 9) n (spK (I 9) n (spJ (I 9) n i))).1) (spN (I 9) n (spK (I 9) n (spN (I 9) n (spK (I 9) n (spJ (I 9) n i))).1)).1 (spN (I 9) n (spK (I 9) n (spN (I 9) n (spK (I 9) n (spJ (I 9) n i))).1)).2) = -1 then 0 else if (numR (spK (I 9) n (spJ (I 9) n i)) (spN (I 9) n (spK (I 9) n (spJ (I 9) n i))).1 (spN (I 9) n (spK (I 9) n (spJ (I 9) n i))).2) ≤ (numR (spK (I 9) n (spN (I 9) n (spK (I 9) n (spJ (I 9) n i))).1) (spN (I 9) n (spK (I 9) n (spN (I 9) n (spK (I 9) n (spJ (I 9) n i))).1)).1 (spN (I 9) n (spK (I 9) n (spN (I 9) n (spK (I 9) n (spJ (I 9) n i))).1)).2) then 1 else 0) else 0) else 0
def rsI (I : IM) (n i z : Nat) : IM := if nI (spJ (I 9) n i) = nI i then failI (iu I 8 7 (nI (spJ (I 9) n i))) (nI i) 0 else if nI (spJ (I 9) n i) - nI i ≤ 10 then (if 8 ≤ nI z then failI (iu I 8 7 (nI (spJ (I 9) n i))) (nI i) 2 else if toldF (I 9) (I 10) (I 11) i (spJ (I 9) n i) z 0 = 0 then (if (numR (spK (I 9) n (spJ (I 9) n i)) (spN (I 9) n (spK (I 9) n (spJ (I 9) n i))).1 (spN (I 9) n (spK (I 9) n (spJ (I 9) n i))).2) = -1 then numI (iu I 8 7 (nI (spK (I 9) n (spJ (I 9) n i)))) (spK (I 9) n (spJ (I 9) n i)) (spN (I 9) n (spK (I 9) n (spJ (I 9) n i))).1 (spN (I 9) n (spK (I 9) n (spJ (I 9) n i))).2 else if (numR (spK (I 9) n (spN (I 9) n (spK (I 9) n (spJ (I 9) n i))).1) (spN (I 9) n (spK (I 9) n (spN (I 9) n (spK (I 9) n (spJ (I 9) n i))).1)).1 (spN (I 9) n (spK (I 9) n (spN (I 9) n (spK (I 9) n (spJ (I 9) n i))).1)).2) = -1 then numI (iu I 8 7 (nI (spK (I 9) n (spN (I 9) n (spK (I 9) n (spJ (I 9) n i))).1))) (spK (I 9) n (spN (I 9) n (spK (I 9) n (spJ (I 9) n i))).1) (spN (I 9) n (spK (I 9) n (spN (I 9) n (spK (I 9) n (spJ (I 9) n i))).1)).1 (spN (I 9) n (spK (I 9) n (spN (I 9) n (spK (I 9) n (spJ (I 9) n i))).1)).2 else if (numR (spK (I 9) n (spJ (I 9) n i)) (spN (I 9) n (spK (I 9) n (spJ (I 9) n i))).1 (spN (I 9) n (spK (I 9) n (spJ (I 9) n i))).2) ≤ (numR (spK (I 9) n (spN (I 9) n (spK (I 9) n (spJ (I 9) n i))).1) (spN (I 9) n (spK (I 9) n (spN (I 9) n (spK (I 9) n (spJ (I 9) n i))).1)).1 (spN (I 9) n (spK (I 9) n (spN (I 9) n (spK (I 9) n (spJ (I 9) n i))).1)).2) then keepI (iu I 8 7 (nI (spN (I 9) n (spK (I 9) n (spN (I 9) n (spK (I 9) n (spJ (I 9) n i))).1)).1)) z (nI i) (nI (spJ (I 9) n i)) (numR (spK (I 9) n (spJ (I 9) n i)) (spN (I 9) n (spK (I 9) n (spJ (I 9) n i))).1 (spN (I 9) n (spK (I 9) n (spJ (I 9) n i))).2) (numR (spK (I 9) n (spN (I 9) n (spK (I 9) n (spJ (I 9) n i))).1) (spN (I 9) n (spK (I 9) n (spN (I 9) n (spK (I 9) n (spJ (I 9) n i))).1)).1 (spN (I 9) n (spK (I 9) n (spN (I 9) n (spK (I 9) n (spJ (I 9) n i))).1)).2) else failI (iu I 8 7 (nI (spN (I 9) n (spK (I 9) n (spN (I 9) n (spK (I 9) n (spJ (I 9) n i))).1)).1)) (nI (spK (I 9) n (spN (I 9) n (spK (I 9) n (spJ (I 9) n i))).1)) 1) else failI (iu I 8 7 (nI (spJ (I 9) n i))) (nI i) 2) else failI (iu I 8 7 (nI (spJ (I 9) n i))) (nI i) 1
/-- the words that are kept lie in the text -/
def WOK (I : IM) (n z : Nat) : Prop := ∀ k, k < z → ∃ a b : Nat, I 10 k = nI a ∧ I 11 k = nI b ∧ a ≤ b ∧ b ≤ n
theorem WOK.told {I : IM} {n z a b : Nat} (h : WOK I n z) (hn : n ≤ 200) (hab : a ≤ b) (hb : b ≤ 200) : ∀ k, k < z → I 11 k - I 10 k = nI b - nI a → I 10 k = nI (ix (I 10 k)) ∧ ix (I 10 k) + (b - a) ≤ 200 := by
  intro k hk he
  obtain ⟨x, y, h1, h2, h3, h4⟩ := h k hk
  rw [h1, h2, pk_sub h3, pk_sub hab] at he
  have he2 := (nI_eq (by omega) (by omega)).mp he
  rw [h1, show ix (nI x) = x from nI_clamp (by omega)]
  exact ⟨rfl, by omega⟩
