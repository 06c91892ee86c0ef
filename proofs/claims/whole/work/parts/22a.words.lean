/-! ===== spans, both: words ===== -/
theorem rs_bad {I : IM} {n i z : Nat} (h : rsR I n i z = 0) : rsI I n i z 8 6 = I 8 6 := by
  unfold rsR at h
  unfold rsI
  split
  · rfl
  rename_i c1
  rw [if_neg c1] at h
  split
  · rename_i c2
    rw [if_pos c2] at h
    split
    · rfl
    rename_i c3
    rw [if_neg c3] at h
    split
    · rename_i c4
      rw [if_pos c4] at h
      split
      · unfold numI; split
        · rfl
        · split
          · rfl
          · split <;> rfl
      rename_i c5
      rw [if_neg c5] at h
      split
      · unfold numI; split
        · rfl
        · split
          · rfl
          · split <;> rfl
      rename_i c6
      rw [if_neg c6] at h
      split
      · rename_i c7
        rw [if_pos c7] at h
        exact absurd h (by decide)
      · rfl
    · rfl
  · rfl
theorem rdL_z (n : Nat) : ∀ (f : Nat) (I : IM) (i z : Nat), RInv I n i z → ∃ z', z' ≤ 8 ∧ rdL n f I i z 8 6 = nI z'
  | 0, I, i, z, h => ⟨z, h.2.2.2.2.1, h.2.2.2.1⟩
  | f + 1, I, i, z, h => by
    unfold rdL
    split
    · rename_i c; exact ⟨z, h.2.2.2.2.1, (rs_bad c).trans h.2.2.2.1⟩
    · rename_i c
      have hS := (h.span c).1
      have hz := hS.2.2.2.1
      split
      · rename_i hk
        split
        · refine rdL_z n f _ _ _ (hS.at (spK_b (T := I 9) ?_).2)
          omega
        · exact ⟨z + 1, hS.2.2.2.2.1, hz⟩
      · exact ⟨z + 1, hS.2.2.2.2.1, hz⟩
theorem read_z {I : IM} {n : Nat} (hn : I 8 5 = nI n) : ∃ z, z ≤ 8 ∧ readI I n 8 6 = nI z := by
  unfold readI
  have bK := spK_b (T := I 9) (Nat.zero_le n)
  split
  · exact rdL_z n 9 _ _ _ ⟨hn, iu_same, bK.2, rfl, by decide, fun k hk => absurd hk (Nat.not_lt_zero k)⟩
  · exact ⟨0, by decide, rfl⟩
def spansR (I : IM) (n : Nat) : Int32 := if readI I n 8 8 = 0 then readI I n 8 6 else -2 - readI I n 8 8
def spansI (I : IM) (n : Nat) : IM := if readI I n 8 8 = 0 then takeL (ix (readI I n 8 6)) 0 (iu (iu (readI I n) 8 5 0) 14 2 (readI I n 8 6)) else iu (readI I n) 8 5 0
/-- the reference -/
theorem and255_ne (x : Int32) : ¬ x &&& 255 = -1 := by
  intro h
  have h2 : (x &&& 255) &&& 256 = -1 &&& 256 := by rw [h]
  rw [Int32.and_assoc, show (255 : Int32) &&& 256 = 0 by decide, Int32.and_zero] at h2
  exact absurd h2 (by decide)
theorem seeR_m1 {T : Nat → Int32} {n s : Nat} : seeR T n s = -1 ↔ ¬ s < n := by
  unfold seeR
  split
  · rename_i h; exact ⟨fun q => absurd q (and255_ne _), fun q => absurd h q⟩
  · rename_i h; exact ⟨fun _ => h, fun _ => rfl⟩
def msE (T : Nat → Int32) (n i : Nat) : Nat := k1M T n (k1M T n (spJ T n (spK T n i)))
theorem msE_b {T : Nat → Int32} {n i : Nat} (h : i ≤ n) : msE T n i ≤ n := (k1M_b (k1M_b (spJ_b (spK_b h).2).2).2).2
theorem ms_ok {I : IM} {n i z : Nat} (h : ¬ msR I n i z = 0) : msI I n i z = ms6 I n i z ∧ ¬ nI z = 8 := by
  unfold msR at h
  unfold msI
  split
  · rename_i c; rw [if_pos c] at h; exact absurd rfl h
  rename_i c1
  rw [if_neg c1] at h
  split
  · rename_i c2
    rw [if_pos c2] at h
    split
    · rename_i c; rw [if_pos c] at h; exact absurd rfl h
    rename_i c3
    rw [if_neg c3] at h
    split
    · rename_i c4
      rw [if_pos c4] at h
      split
      · rename_i c; rw [if_pos c] at h; exact absurd rfl h
      rename_i c5
      rw [if_neg c5] at h
      split
      · rename_i c; rw [if_pos c] at h; exact absurd rfl h
      exact ⟨rfl, c3⟩
    · rename_i c; rw [if_neg c] at h; exact absurd rfl h
  · rename_i c; rw [if_neg c] at h; exact absurd rfl h
def MInv (I : IM) (n i z : Nat) : Prop := I 47 39 = nI n ∧ I 47 40 = nI i ∧ i ≤ n ∧ I 47 45 = nI z ∧ z ≤ 8 ∧ WOKm I n z
theorem MInv.at {I : IM} {n i z e : Nat} (h : MInv I n i z) (he : e ≤ n) : MInv (iu I 47 40 (nI e)) n e z := by
  obtain ⟨h1, h2, h3, h4, h5, h6⟩ := h
  exact ⟨h1, iu_same, he, h4, h5, fun k hk => h6 k hk⟩
theorem MInv.span {I : IM} {n i z : Nat} (h : MInv I n i z) (hr : ¬ msR I n i z = 0) : MInv (msI I n i z) n (msE (I 77) n i) (z + 1) ∧ msI I n i z 77 = I 77 := by
  have ho := ms_ok hr
  rw [ho.1]
  have bA := spK_b (T := I 77) h.2.2.1
  have bJ := spJ_b (T := I 77) bA.2
  have hz := nI_8 ho.2 h.2.2.2.2.1
  obtain ⟨h1, h2, h3, h4, h5, h6⟩ := h
  refine ⟨⟨h1, ?_, msE_b h3, ?_, hz, ?_⟩, rfl⟩
  · rfl
  · show nI z + 1 = _
    rw [nI_1]
  · intro k hk
    by_cases hkz : k = z
    · subst hkz
      exact ⟨spK (I 77) n i, spJ (I 77) n (spK (I 77) n i) - spK (I 77) n i, by simp [ms6, ms4, ms2, iu_ap]; rfl, by simp [ms6, ms4, ms2, iu_ap]; rfl, by omega⟩
    · obtain ⟨a, b, q1, q2, q3⟩ := h6 k (by omega)
      exact ⟨a, b, by simpa [ms6, ms4, ms2, iu_ap, hkz] using q1, by simpa [ms6, ms4, ms2, iu_ap, hkz] using q2, q3⟩
def rdM (n : Nat) : Nat → IM → Nat → Nat → Int32 × IM
  | 0, I, _, _ => (0, I)
  | f + 1, I, i, z => if msR I n i z = 0 then (0, msI I n i z) else if spK (I 77) n (msE (I 77) n i) < n then (if seeR (I 77) n (spK (I 77) n (msE (I 77) n i)) = 59 then rdM n f (iu (msI I n i z) 47 40 (nI (spK (I 77) n (msE (I 77) n i) + 1))) (spK (I 77) n (msE (I 77) n i) + 1) (z + 1) else (0, iu (failsI (iu (msI I n i z) 47 40 (nI (spK (I 77) n (msE (I 77) n i)))) 0 (nI (spK (I 77) n (msE (I 77) n i)))) 47 40 (failsI (iu (msI I n i z) 47 40 (nI (spK (I 77) n (msE (I 77) n i)))) 0 (nI (spK (I 77) n (msE (I 77) n i))) 47 40 + 1))) else (1, iu (msI I n i z) 47 40 (nI (spK (I 77) n (msE (I 77) n i))))
def readM (I : IM) (n : Nat) : Int32 × IM := if spK (I 77) n 0 < n then rdM n 9 (iu (iu (iu (iu I 47 40 0) 47 41 0) 47 45 0) 47 40 (nI (spK (I 77) n 0))) (spK (I 77) n 0) 0 else (1, iu (iu (iu (iu I 47 40 0) 47 41 0) 47 45 0) 47 40 (nI (spK (I 77) n 0)))
def takeM : Nat → Nat → IM → IM
  | 0, _, I => I
  | m + 1, k, I => takeM m (k + 1) (iu (iu I 78 k (I 80 k)) 79 k (I 81 k))
theorem takeM_o {a : Nat} (h1 : a ≠ 78) (h2 : a ≠ 79) : ∀ (m k : Nat) (I : IM), takeM m k I a = I a
  | 0, _, _ => rfl
  | m + 1, k, I => by
    show takeM m (k + 1) _ a = I a
    rw [takeM_o h1 h2 m (k + 1), iu_ne a h2, iu_ne a h1]
def spansMR (I : IM) (n : Nat) : Int32 := if (readM I n).1 = 0 then -2 - (readM I n).2 47 41 else (readM I n).2 47 45
def spansMI (I : IM) (n : Nat) : IM := if (readM I n).1 = 0 then iu (readM I n).2 47 39 0 else takeM (ix ((readM I n).2 47 45)) 0 (iu (iu (readM I n).2 47 39 0) 47 42 ((readM I n).2 47 45))
theorem msR_01 (I : IM) (n i z : Nat) : msR I n i z = 0 ∨ msR I n i z = 1 := by
  unfold msR
  repeat' split
  all_goals first | exact Or.inl rfl | exact Or.inr rfl
theorem scan_end (p : Int32 → Bool) (T : Nat → Int32) (n : Nat) : ∀ (f i : Nat), n ≤ i + f → scan p T n f i < n → p (T (scan p T n f i)) = false
  | 0, i, h, q => absurd q (by show ¬ i < n; omega)
  | f + 1, i, h, q => by
    unfold scan at q ⊢
    split
    · rename_i c
      rw [if_pos c] at q
      exact scan_end p T n f (i + 1) (by omega) q
    · rename_i c
      rw [if_neg c] at q
      cases hp : p (T i)
      · rfl
      · exact absurd ⟨q, hp⟩ c
theorem scan_fix {p : Int32 → Bool} {T : Nat → Int32} {n j : Nat} (h : j < n → p (T j) = false) : ∀ f, scan p T n f j = j
  | 0 => rfl
  | f + 1 => by
    unfold scan
    rw [if_neg]
    rintro ⟨h1, h2⟩
    rw [h h1] at h2
    exact absurd h2 (by decide)
theorem spK_spK {T : Nat → Int32} {n i : Nat} : spK T n (spK T n i) = spK T n i :=
  scan_fix (scan_end pbl T n (n - i) i (by omega)) _
