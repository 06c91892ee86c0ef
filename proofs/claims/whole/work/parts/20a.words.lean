/-! ===== the whole text, the class: words ===== -/
def rsE (T : Nat → Int32) (n i : Nat) : Nat := (spN T n (spK T n (spN T n (spK T n (spJ T n i))).1)).1
theorem rsE_b {T : Nat → Int32} {n i : Nat} (h : i ≤ n) : i ≤ rsE T n i ∧ rsE T n i ≤ n := by
  have a := spJ_b (T := T) h
  have b := spK_b (T := T) a.2
  have c := spN_b (T := T) b.2
  have d := spK_b (T := T) c.2
  have e := spN_b (T := T) d.2
  exact ⟨by unfold rsE; omega, e.2⟩
theorem rs_ok {I : IM} {n i z : Nat} (h : ¬ rsR I n i z = 0) : rsI I n i z = keepI (iu I 8 7 (nI (rsE (I 9) n i))) z (nI i) (nI (spJ (I 9) n i)) (numR (spK (I 9) n (spJ (I 9) n i)) (spN (I 9) n (spK (I 9) n (spJ (I 9) n i))).1 (spN (I 9) n (spK (I 9) n (spJ (I 9) n i))).2) (numR (spK (I 9) n (spN (I 9) n (spK (I 9) n (spJ (I 9) n i))).1) (spN (I 9) n (spK (I 9) n (spN (I 9) n (spK (I 9) n (spJ (I 9) n i))).1)).1 (spN (I 9) n (spK (I 9) n (spN (I 9) n (spK (I 9) n (spJ (I 9) n i))).1)).2) ∧ ¬ 8 ≤ nI z := by
  unfold rsR at h
  unfold rsI rsE
  by_cases c1 : nI (spJ (I 9) n i) = nI i
  · rw [if_pos c1] at h; exact absurd rfl h
  rw [if_neg c1] at h ⊢
  by_cases c2 : nI (spJ (I 9) n i) - nI i ≤ 10
  · rw [if_pos c2] at h ⊢
    by_cases c3 : 8 ≤ nI z
    · rw [if_pos c3] at h; exact absurd rfl h
    rw [if_neg c3] at h ⊢
    by_cases c4 : toldF (I 9) (I 10) (I 11) i (spJ (I 9) n i) z 0 = 0
    · rw [if_pos c4] at h ⊢
      by_cases c5 : (numR (spK (I 9) n (spJ (I 9) n i)) (spN (I 9) n (spK (I 9) n (spJ (I 9) n i))).1 (spN (I 9) n (spK (I 9) n (spJ (I 9) n i))).2) = -1
      · rw [if_pos c5] at h; exact absurd rfl h
      rw [if_neg c5] at h ⊢
      by_cases c6 : (numR (spK (I 9) n (spN (I 9) n (spK (I 9) n (spJ (I 9) n i))).1) (spN (I 9) n (spK (I 9) n (spN (I 9) n (spK (I 9) n (spJ (I 9) n i))).1)).1 (spN (I 9) n (spK (I 9) n (spN (I 9) n (spK (I 9) n (spJ (I 9) n i))).1)).2) = -1
      · rw [if_pos c6] at h; exact absurd rfl h
      rw [if_neg c6] at h ⊢
      by_cases c7 : (numR (spK (I 9) n (spJ (I 9) n i)) (spN (I 9) n (spK (I 9) n (spJ (I 9) n i))).1 (spN (I 9) n (spK (I 9) n (spJ (I 9) n i))).2) ≤ (numR (spK (I 9) n (spN (I 9) n (spK (I 9) n (spJ (I 9) n i))).1) (spN (I 9) n (spK (I 9) n (spN (I 9) n (spK (I 9) n (spJ (I 9) n i))).1)).1 (spN (I 9) n (spK (I 9) n (spN (I 9) n (spK (I 9) n (spJ (I 9) n i))).1)).2)
      · rw [if_pos c7]; exact ⟨rfl, c3⟩
      · rw [if_neg c7] at h; exact absurd rfl h
    · rw [if_neg c4] at h; exact absurd rfl h
  · rw [if_neg c2] at h; exact absurd rfl h
def rdL (n : Nat) : Nat → IM → Nat → Nat → IM
  | 0, I, _, _ => I
  | f + 1, I, i, z => if rsR I n i z = 0 then rsI I n i z else if spK (I 9) n (rsE (I 9) n i) < n then (if I 9 (spK (I 9) n (rsE (I 9) n i)) = 59 then rdL n f (iu (rsI I n i z) 8 7 (nI (spK (I 9) n (spK (I 9) n (rsE (I 9) n i) + 1)))) (spK (I 9) n (spK (I 9) n (rsE (I 9) n i) + 1)) (z + 1) else failI (iu (rsI I n i z) 8 7 (nI (spK (I 9) n (rsE (I 9) n i)))) (nI (spK (I 9) n (rsE (I 9) n i))) 0) else iu (rsI I n i z) 8 7 (nI (spK (I 9) n (rsE (I 9) n i)))
def readI (I : IM) (n : Nat) : IM := if spK (I 9) n 0 < n then rdL n 9 (iu (iu (iu (iu I 8 7 0) 8 6 0) 8 8 0) 8 7 (nI (spK (I 9) n 0))) (spK (I 9) n 0) 0 else iu (iu (iu (iu I 8 7 0) 8 6 0) 8 8 0) 8 7 (nI (spK (I 9) n 0))
/-- what holds between two spans -/
def RInv (I : IM) (n i z : Nat) : Prop := I 8 5 = nI n ∧ I 8 7 = nI i ∧ i ≤ n ∧ I 8 6 = nI z ∧ z ≤ 8 ∧ WOK I n z
theorem keep_inv {I : IM} {n i z e j : Nat} {lo hi : Int32} (h : RInv I n i z) (hz : z < 8) (he : e ≤ n) (hij : i ≤ j) (hj : j ≤ n) : RInv (keepI (iu I 8 7 (nI e)) z (nI i) (nI j) lo hi) n e (z + 1) := by
  obtain ⟨h1, h2, h3, h4, h5, h6⟩ := h
  refine ⟨?_, ?_, he, ?_, by omega, ?_⟩
  · simpa [keepI, iu_ap] using h1
  · simp [keepI, iu_ap]
  · simp [keepI, iu_ap, h4, nI_1]
  · intro k hk
    by_cases hkz : k = z
    · subst hkz
      exact ⟨i, j, by simp [keepI, iu_ap], by simp [keepI, iu_ap], hij, hj⟩
    · obtain ⟨a, b, q1, q2, q3⟩ := h6 k (by omega)
      exact ⟨a, b, by simpa [keepI, iu_ap, hkz] using q1, by simpa [keepI, iu_ap, hkz] using q2, q3⟩
theorem RInv.at {I : IM} {n i z e : Nat} (h : RInv I n i z) (he : e ≤ n) : RInv (iu I 8 7 (nI e)) n e z := by
  obtain ⟨h1, h2, h3, h4, h5, h6⟩ := h
  exact ⟨h1, iu_same, he, h4, h5, fun k hk => h6 k hk⟩
theorem RInv.span {I : IM} {n i z : Nat} (h : RInv I n i z) (hr : ¬ rsR I n i z = 0) : RInv (rsI I n i z) n (rsE (I 9) n i) (z + 1) ∧ rsI I n i z 9 = I 9 := by
  have ho := rs_ok hr
  rw [ho.1]
  have bJ := spJ_b (T := I 9) h.2.2.1
  exact ⟨keep_inv h (nI_lt_of ho.2 (by have := h.2.2.2.2.1; omega)) (rsE_b h.2.2.1).2 bJ.1 bJ.2, rfl⟩
def takeL : Nat → Nat → IM → IM
  | 0, _, I => I
  | m + 1, k, I => takeL m (k + 1) (iu (iu I 15 k (I 12 k)) 16 k (I 13 k))
theorem takeL_o {a : Nat} (h1 : a ≠ 15) (h2 : a ≠ 16) : ∀ (m k : Nat) (I : IM), takeL m k I a = I a
  | 0, _, _ => rfl
  | m + 1, k, I => by
    show takeL m (k + 1) _ a = I a
    rw [takeL_o h1 h2 m (k + 1), iu_ne a h2, iu_ne a h1]
