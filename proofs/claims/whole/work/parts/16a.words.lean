/-! ===== the reference's move: words ===== -/
def vF (I : IM) (y s t : Nat) : Int32 := I 87 (5 * s + t) + I 86 (10 * t + y) + I 88 (5 * (y + 1) + t)
def mi (b v : Int32) : Int32 := if b ≤ v then b else v
def frF (f : Nat → Int32) : Int32 := mi (mi (mi (mi (mi 2147483647 (f 0)) (f 1)) (f 2)) (f 3)) (f 4)
theorem mi_or (b v : Int32) : mi b v = b ∨ mi b v = v := by
  unfold mi
  split
  · exact Or.inl rfl
  · exact Or.inr rfl
theorem mi_max (v : Int32) : mi 2147483647 v = v := by
  unfold mi
  split
  · rename_i h
    rw [Int32.le_iff_toInt_le] at h
    have e : (2147483647 : Int32).toInt = 2147483647 := by decide
    have := (toInt_rng v).2
    apply Int32.toInt_inj.mp
    omega
  · rfl
theorem frF_ex (f : Nat → Int32) : ∃ t, t < 5 ∧ f t = frF f := by
  unfold frF
  rw [mi_max]
  rcases mi_or (mi (mi (mi (f 0) (f 1)) (f 2)) (f 3)) (f 4) with h | h
  · rw [h]
    rcases mi_or (mi (mi (f 0) (f 1)) (f 2)) (f 3) with h | h
    · rw [h]
      rcases mi_or (mi (f 0) (f 1)) (f 2) with h | h
      · rw [h]
        rcases mi_or (f 0) (f 1) with h | h
        · rw [h]; exact ⟨0, by decide, rfl⟩
        · rw [h]; exact ⟨1, by decide, rfl⟩
      · rw [h]; exact ⟨2, by decide, rfl⟩
    · rw [h]; exact ⟨3, by decide, rfl⟩
  · rw [h]; exact ⟨4, by decide, rfl⟩
def zrow (yy : Nat) (I : IM) : IM := iu (iu (iu (iu (iu I 88 (5 * yy + 0) 0) 88 (5 * yy + 1) 0) 88 (5 * yy + 2) 0) 88 (5 * yy + 3) 0) 88 (5 * yy + 4) 0
def frs (y : Nat) (I : IM) (s : Nat) : IM := iu I 88 (5 * y + s) (frF (vF I y s))
def frow (y : Nat) (I : IM) : IM := frs y (frs y (frs y (frs y (frs y I 0) 1) 2) 3) 4
def planM : Nat → IM → IM
  | 0, I => I
  | m + 1, I => planM m (frow m I)
def fsF (f : Nat → Int32) (v : Int32) : Nat := if f 0 = v then 0 else if f 1 = v then 1 else if f 2 = v then 2 else if f 3 = v then 3 else 4
def mvM : Nat → Nat → Nat → IM → IM
  | 0, _, _, I => I
  | m + 1, q, s, I => mvM m (q + 1) (fsF (vF I q s) (I 88 (5 * q + s))) (iu I 89 q (nI (fsF (vF I q s) (I 88 (5 * q + s)))))
/-- the rows from m on are least sums -/
def Rows (yy m : Nat) (I : IM) : Prop := ∀ y, m ≤ y → y < yy → ∀ s, s < 5 → I 88 (5 * y + s) = frF (vF I y s)
theorem frs_o {y : Nat} {I : IM} {s a j : Nat} (h : a ≠ 88 ∨ j ≠ 5 * y + s) : frs y I s a j = I a j := by
  unfold frs
  rcases h with h | h
  · rw [iu_o h]
  · rw [iu_k h]
theorem frs_v {y z : Nat} {I : IM} {s c : Nat} (h : y ≤ z) (hs : s < 5) (t : Nat) : vF (frs y I s) z c t = vF I z c t := by
  unfold vF
  rw [frs_o (Or.inl (by decide)), frs_o (Or.inl (by decide)), frs_o (Or.inr (by omega))]
theorem frF_c {f g : Nat → Int32} (h : ∀ t, f t = g t) : frF f = frF g := by rw [show f = g from funext h]
theorem frow_at {y : Nat} {I : IM} {s : Nat} (hs : s < 5) : frow y I 88 (5 * y + s) = frF (vF (frow y I) y s) := by
  have key : ∀ t, vF (frow y I) y s t = vF I y s t := by
    intro t
    unfold frow
    rw [frs_v (Nat.le_refl y) (by decide), frs_v (Nat.le_refl y) (by decide), frs_v (Nat.le_refl y) (by decide), frs_v (Nat.le_refl y) (by decide), frs_v (Nat.le_refl y) (by decide)]
  rw [frF_c key]
  unfold frow
  rcases (show s = 0 ∨ s = 1 ∨ s = 2 ∨ s = 3 ∨ s = 4 by omega) with rfl | rfl | rfl | rfl | rfl
  · rw [frs_o (Or.inr (by omega)), frs_o (Or.inr (by omega)), frs_o (Or.inr (by omega)), frs_o (Or.inr (by omega))]
    unfold frs
    rw [iu_same]
  · rw [frs_o (Or.inr (by omega)), frs_o (Or.inr (by omega)), frs_o (Or.inr (by omega))]
    rw [show frs y (frs y I 0) 1 88 (5 * y + 1) = frF (vF (frs y I 0) y 1) from iu_same]
    exact frF_c (frs_v (Nat.le_refl y) (by decide))
  · rw [frs_o (Or.inr (by omega)), frs_o (Or.inr (by omega))]
    rw [show frs y (frs y (frs y I 0) 1) 2 88 (5 * y + 2) = frF (vF (frs y (frs y I 0) 1) y 2) from iu_same]
    exact frF_c (fun t => (frs_v (Nat.le_refl y) (by decide) t).trans (frs_v (Nat.le_refl y) (by decide) t))
  · rw [frs_o (Or.inr (by omega))]
    rw [show frs y (frs y (frs y (frs y I 0) 1) 2) 3 88 (5 * y + 3) = frF (vF (frs y (frs y (frs y I 0) 1) 2) y 3) from iu_same]
    exact frF_c (fun t => ((frs_v (Nat.le_refl y) (by decide) t).trans (frs_v (Nat.le_refl y) (by decide) t)).trans (frs_v (Nat.le_refl y) (by decide) t))
  · rw [show frs y (frs y (frs y (frs y (frs y I 0) 1) 2) 3) 4 88 (5 * y + 4) = frF (vF (frs y (frs y (frs y (frs y I 0) 1) 2) 3) y 4) from iu_same]
    exact frF_c (fun t => (((frs_v (Nat.le_refl y) (by decide) t).trans (frs_v (Nat.le_refl y) (by decide) t)).trans (frs_v (Nat.le_refl y) (by decide) t)).trans (frs_v (Nat.le_refl y) (by decide) t))
theorem frow_o {y : Nat} {I : IM} {a j : Nat} (h : a ≠ 88 ∨ j < 5 * y ∨ 5 * y + 5 ≤ j) : frow y I a j = I a j := by
  unfold frow
  rw [frs_o (by omega), frs_o (by omega), frs_o (by omega), frs_o (by omega), frs_o (by omega)]
theorem Rows.step {yy m : Nat} {I : IM} (h : Rows yy (m + 1) I) : Rows yy m (frow m I) := by
  intro y h1 h2 s hs
  by_cases hy : y = m
  · subst hy
    exact frow_at hs
  · rw [frow_o (Or.inr (Or.inr (by omega))), h y (by omega) h2 s hs]
    apply frF_c
    intro t
    unfold vF
    rw [frow_o (Or.inl (by decide)), frow_o (Or.inl (by decide)), frow_o (Or.inr (Or.inr (by omega)))]
theorem Rows.plan {yy : Nat} : ∀ (m : Nat) (I : IM), Rows yy m I → Rows yy 0 (planM m I)
  | 0, _, h => h
  | m + 1, I, h => Rows.plan m (frow m I) h.step
theorem planM_o : ∀ (m : Nat) (I : IM) (a j : Nat), a ≠ 88 → planM m I a j = I a j
  | 0, _, _, _, _ => rfl
  | m + 1, I, a, j, h => (planM_o m (frow m I) a j h).trans (frow_o (Or.inl h))
def moveIm (I : IM) (yy s : Nat) : IM := iu (mvM yy 0 s (planM yy (zrow yy I))) 47 56 (nI yy)
theorem mvM_o : ∀ (m q s : Nat) (I : IM) (a j : Nat), a ≠ 89 → mvM m q s I a j = I a j
  | 0, _, _, _, _, _, _ => rfl
  | m + 1, q, s, I, a, j, h => (mvM_o m (q + 1) _ _ a j h).trans (iu_o h)
theorem wI_yy {yy : Nat} (h1 : 1 ≤ yy) (h2 : yy ≤ 10) : ¬ wI (nI yy) 1 10 = 0 := fun h => wI_0 h ⟨nI_le (a := 1) h1 (by omega), nI_le (b := 10) h2 (by decide)⟩
