/-! ===== a span of the text, the reference: words ===== -/
def k1M (T : Nat → Int32) (n b : Nat) : Nat := (numM T n (n - spK T n b) (spK T n b) 0 0).1
def v1M (T : Nat → Int32) (n b : Nat) : Int32 := (numM T n (n - spK T n b) (spK T n b) 0 0).2.2
theorem numM_1 (T : Nat → Int32) (n : Nat) : ∀ (f k : Nat) (c v : Int32), (numM T n f k c v).1 = scan pdig T n f k
  | 0, _, _, _ => rfl
  | f + 1, k, c, v => by
    unfold numM scan
    split
    · exact numM_1 T n f (k + 1) _ _
    · rfl
theorem k1M_b {T : Nat → Int32} {n b : Nat} (h : b ≤ n) : b ≤ k1M T n b ∧ k1M T n b ≤ n := by
  have a := spK_b (T := T) h
  unfold k1M
  rw [numM_1]
  exact ⟨Nat.le_trans a.1 (scan_ge _ _ _ _ _), scan_le _ _ _ _ _ a.2⟩
def ms2 (I : IM) (n i z : Nat) : IM := iu (iu (iu I 47 40 (nI (spJ (I 77) n (seeJ I n i)))) 82 z (nI (seeJ I n i))) 83 z (nI ((spJ (I 77) n (seeJ I n i)) - (seeJ I n i)))
def ms4 (I : IM) (n i z : Nat) : IM := iu (iu (iu (ms2 I n i z) 47 40 (nI (k1M (I 77) n (spJ (I 77) n (seeJ I n i))))) 47 50 (v1M (I 77) n (spJ (I 77) n (seeJ I n i)))) 80 z (v1M (I 77) n (spJ (I 77) n (seeJ I n i)))
def ms6 (I : IM) (n i z : Nat) : IM := iu (iu (iu (iu (ms4 I n i z) 47 40 (nI (k1M (I 77) n (k1M (I 77) n (spJ (I 77) n (seeJ I n i)))))) 47 50 (v1M (I 77) n (k1M (I 77) n (spJ (I 77) n (seeJ I n i))))) 81 z (v1M (I 77) n (k1M (I 77) n (spJ (I 77) n (seeJ I n i))))) 47 45 (nI z + 1)
def msR (I : IM) (n i z : Nat) : Int32 := if nI ((spJ (I 77) n (seeJ I n i)) - (seeJ I n i)) = 0 then 0 else if nI ((spJ (I 77) n (seeJ I n i)) - (seeJ I n i)) ≤ 10 then (if nI z = 8 then 0 else if twF (I 77) (I 82) (I 83) (seeJ I n i) ((spJ (I 77) n (seeJ I n i)) - (seeJ I n i)) z 0 = 0 then (if nbR (ms2 I n i z) n (spJ (I 77) n (seeJ I n i)) 0 100 = 0 then 0 else if nbR (ms4 I n i z) n (k1M (I 77) n (spJ (I 77) n (seeJ I n i))) (v1M (I 77) n (spJ (I 77) n (seeJ I n i))) 100 = 0 then 0 else 1) else 0) else 0
def msI (I : IM) (n i z : Nat) : IM := if nI ((spJ (I 77) n (seeJ I n i)) - (seeJ I n i)) = 0 then failsI (iu I 47 40 (nI (seeJ I n i))) 0 (nI (seeJ I n i)) else if nI ((spJ (I 77) n (seeJ I n i)) - (seeJ I n i)) ≤ 10 then (if nI z = 8 then failsI (iu I 47 40 (nI (seeJ I n i))) 2 (nI (seeJ I n i)) else if twF (I 77) (I 82) (I 83) (seeJ I n i) ((spJ (I 77) n (seeJ I n i)) - (seeJ I n i)) z 0 = 0 then (if nbR (ms2 I n i z) n (spJ (I 77) n (seeJ I n i)) 0 100 = 0 then nbI (ms2 I n i z) n (spJ (I 77) n (seeJ I n i)) 0 100 else if nbR (ms4 I n i z) n (k1M (I 77) n (spJ (I 77) n (seeJ I n i))) (v1M (I 77) n (spJ (I 77) n (seeJ I n i))) 100 = 0 then nbI (ms4 I n i z) n (k1M (I 77) n (spJ (I 77) n (seeJ I n i))) (v1M (I 77) n (spJ (I 77) n (seeJ I n i))) 100 else ms6 I n i z) else failsI (iu I 47 40 (nI (seeJ I n i))) 2 (nI (seeJ I n i))) else failsI (iu I 47 40 (nI (seeJ I n i))) 1 (nI (seeJ I n i))
theorem nb_ok {I : IM} {n i : Nat} {lo hi : Int32} (h : ¬ nbR I n i lo hi = 0) : nbI I n i lo hi = nbB I n i := by
  unfold nbR at h
  unfold nbI
  by_cases c1 : wI (seeR (I 77) n (seeJ I n i)) 48 57 = 0
  · rw [if_pos c1] at h; exact absurd rfl h
  rw [if_neg c1] at h ⊢
  by_cases c2 : 3 < (numM (I 77) n (n - seeJ I n i) (seeJ I n i) 0 0).2.1
  · rw [if_pos c2] at h; exact absurd rfl h
  rw [if_neg c2] at h ⊢
  by_cases c3 : wI (numM (I 77) n (n - seeJ I n i) (seeJ I n i) 0 0).2.2 lo hi = 0
  · rw [if_pos c3] at h; exact absurd rfl h
  rw [if_neg c3]
theorem seeJ_b {I : IM} {n i : Nat} (h : i ≤ n) : i ≤ seeJ I n i ∧ seeJ I n i ≤ n := ⟨scan_ge _ _ _ _ _, scan_le _ _ _ _ _ h⟩
def WOKm (I : IM) (n z : Nat) : Prop := ∀ k, k < z → ∃ a b : Nat, I 82 k = nI a ∧ I 83 k = nI b ∧ a + b ≤ n
theorem WOKm.tw {I : IM} {n z b : Nat} (h : WOKm I n z) (hn : n ≤ 200) (hb : b ≤ 200) : ∀ k, k < z → I 83 k = nI b → I 82 k = nI (ix (I 82 k)) ∧ ix (I 82 k) + b ≤ 200 := by
  intro k hk he
  obtain ⟨x, y, h1, h2, h3⟩ := h k hk
  rw [h2] at he
  have he2 := (nI_eq (by omega) (by omega)).mp he
  rw [h1, show ix (nI x) = x from nI_clamp (by omega)]
  exact ⟨rfl, by omega⟩
theorem nI_8 {z : Nat} (h : ¬ nI z = 8) (hz : z ≤ 8) : z < 8 := by
  rcases Nat.lt_or_ge z 8 with q | q
  · exact q
  · exact absurd (show nI z = nI 8 by rw [show z = 8 by omega]) h
