/-! ===== the relation kept: hours; class memory Ic, reference memory Im ===== -/
def HS (Ic Im : IM) (v : Nat) : Prop := Ic 0 11 = nI v ∧ Im 47 0 = nI v ∧ RN (Ic 1 3) (Im 47 2) 20000 ∧ RN (Ic 4 4) (Im 47 3) 20 ∧ Im 47 4 = Ic 4 5
def HW (Ic Im : IM) : Prop := Im 49 = Ic 3 ∧ Im 50 = Ic 5 ∧ Im 51 = Ic 6 ∧ Im 52 = Ic 7 ∧ Im 66 = Ic 37
def HP (Ic Im : IM) (D k : Nat) : Prop := Im 53 k = Ic (18 + k) 0 ∧ (Ic (18 + k) 0 = -1 ∨ ((∃ b, b < 200 ∧ Ic (18 + k) 0 = nI b) ∧ Im 54 k = Ic (18 + k) 1 ∧ Im 55 k = Ic (18 + k) 2 ∧ Im 56 k = Ic (18 + k) 3 ∧ Im 57 k = Ic (18 + k) 4 ∧ ∃ d, d ≤ D ∧ Ic (18 + k) 2 = nI d))
def HF (Ic Im : IM) (p k : Nat) : Prop := Im 67 k = Ic p 0 ∧ Im 68 k = Ic p 1 ∧ Im 69 k = Ic p 2 ∧ Im 70 k = Ic p 3 ∧ Im 75 k = Ic p 4 ∧ Im 74 k = Ic p 5 ∧ Im 71 k = Ic p 6 ∧ Im 72 k = Ic p 7 ∧ Im 73 k = Ic p 8
def HQ (Ic Im : IM) (np : Nat) (pa : Nat → Nat) (l0 l1 l2 : List Nat) : Prop := (∀ k, k < np → HF Ic Im (pa k) k) ∧ (l0 = pl Im pa np 0 ∧ l1 = pl Im pa np 1 ∧ l2 = pl Im pa np 2) ∧ (∀ b, b < 3 → Im 76 b = nI (pl Im pa np b).length) ∧ ∀ k, k < np → Im 71 k = 0 → ∃ b, b < 3 ∧ Im 72 k = nI b
section Hr
variable {Ic Im Ic' Im' : IM} {np n v D : Nat} {pa : Nat → Nat} {l0 l1 l2 : List Nat}
theorem HS.fr (h : HS Ic Im v) (h0 : Ic' 0 11 = Ic 0 11) (h1 : Ic' 1 3 = Ic 1 3) (h4 : Ic' 4 = Ic 4) (h48 : Im' 47 = Im 47) : HS Ic' Im' v := by
  unfold HS at h ⊢
  rw [h0, h1, h4, h48]
  exact h
theorem HW.fr (h : HW Ic Im) (h1 : ∀ a, (3 ≤ a ∧ a ≤ 7 ∧ a ≠ 4) ∨ a = 37 → Ic' a = Ic a) (h2 : ∀ a, (49 ≤ a ∧ a ≤ 52) ∨ a = 66 → Im' a = Im a) : HW Ic' Im' := by
  unfold HW at h ⊢
  rw [h1 3 (by decide), h1 5 (by decide), h1 6 (by decide), h1 7 (by decide), h1 37 (by decide), h2 49 (by decide), h2 50 (by decide), h2 51 (by decide), h2 52 (by decide), h2 66 (by decide)]
  exact h
theorem HP.fr {k : Nat} (h : HP Ic Im D k) (h1 : Ic' (18 + k) = Ic (18 + k)) (h2 : ∀ a, 53 ≤ a → a ≤ 57 → Im' a = Im a) : HP Ic' Im' D k := by
  unfold HP at h ⊢
  rw [h1, h2 53 (by decide) (by decide), h2 54 (by decide) (by decide), h2 55 (by decide) (by decide), h2 56 (by decide) (by decide), h2 57 (by decide) (by decide)]
  exact h
theorem HQ.fr (h : HQ Ic Im np pa l0 l1 l2) (hpa : ∀ k, k < np → 90 ≤ pa k) (h1 : ∀ a, 90 ≤ a → Ic' a = Ic a) (h2 : ∀ a, 67 ≤ a → a ≤ 76 → Im' a = Im a) : HQ Ic' Im' np pa l0 l1 l2 := by
  obtain ⟨q1, q2, q3, q4⟩ := h
  have ep : ∀ b, pl Im' pa np b = pl Im pa np b := fun b => pl_fr (fun k _ => ⟨by rw [h2 71 (by decide) (by decide)], by rw [h2 72 (by decide) (by decide)]⟩)
  refine ⟨fun k hk => ?_, ?_, fun b hb => ?_, fun k hk => ?_⟩
  · have := q1 k hk
    unfold HF at this ⊢
    rw [h1 _ (hpa k hk), h2 67 (by decide) (by decide), h2 68 (by decide) (by decide), h2 69 (by decide) (by decide), h2 70 (by decide) (by decide), h2 71 (by decide) (by decide), h2 72 (by decide) (by decide), h2 73 (by decide) (by decide), h2 74 (by decide) (by decide), h2 75 (by decide) (by decide)]
    exact this
  · rw [ep, ep, ep]; exact q2
  · rw [ep, h2 76 (by decide) (by decide)]; exact q3 b hb
  · rw [h2 71 (by decide) (by decide), h2 72 (by decide) (by decide)]; exact q4 k hk
/-- the heat -/
theorem clamp_eq (x : Int32) : mx 0 (mn 2000 x) = clampM x := by
  have e0 : (0 : Int32).toInt = 0 := by decide
  have e2 : (2000 : Int32).toInt = 2000 := by decide
  unfold mx mn clampM
  apply Int32.toInt_inj.mp
  simp only [Int32.le_iff_toInt_le, Int32.lt_iff_toInt_lt, e0, e2]
  repeat' split
  all_goals simp only [e0, e2] at *
  all_goals omega
theorem heat_eq (h : HS Ic Im v) (hw : HW Ic Im) : HS (hourF Ic n) (hourHm Im n) v := by
  obtain ⟨h0, h1, ⟨st, hst, s1, s2⟩, ⟨r, hr, r1, r2⟩, h4⟩ := h
  obtain ⟨w3, w5, w6, w7, w37⟩ := hw
  have eb : mn (Ic 4 4) (Ic 1 3) = nI (min r st) := by
    rw [s1, r1]
    unfold mn
    by_cases g : st < r
    · rw [if_pos (nI_lt g (by omega)), Nat.min_eq_right (by omega)]
    · rw [if_neg (nI_nlt (by omega) (by omega)), Nat.min_eq_left (by omega)]
  have em : burM Im = nI (min r st) := by
    unfold burM
    rw [s2, r2]
    by_cases g : st ≤ r
    · rw [if_pos (nI_le g (by omega)), Nat.min_eq_right (by omega)]
    · rw [if_neg (nI_ge (by omega) (by omega)), Nat.min_eq_left (by omega)]
  have hm : min r st ≤ st := Nat.min_le_right _ _
  unfold hourF hourHm
  rw [eb, em]
  refine ⟨h0, h1, ⟨st - min r st, by omega, ?_, ?_⟩, ⟨r, hr, r1, r2⟩, ?_⟩
  · show Ic 1 3 - nI (min r st) = _
    rw [s1, pk_sub hm]
  · show Im 47 2 - nI (min r st) = _
    rw [s2, pk_sub hm]
  · show clampM (Im 47 4 + 30 * nI (min r st) - Im 47 4 / 20 - coF (Im 50) (Im 51) (Im 52) (Im 47 0) n 0 0) = burnH (Ic 4 5) (nI (min r st)) (coF (Ic 5) (Ic 6) (Ic 7) (Ic 0 11) n 0 0)
    unfold burnH
    rw [clamp_eq, h4, w5, w6, w7, h0, h1]
/-- the pots -/
theorem hourP_o {I : IM} {a : Nat} (h : a < 18 ∨ 23 < a) : hourP I a = I a := by
  unfold hourP meltP
  rw [iu_ne a (by omega), iu_ne a (by omega), iu_ne a (by omega), iu_ne a (by omega), iu_ne a (by omega), iu_ne a (by omega)]
theorem hourP_k {I : IM} {a j : Nat} (h : j ≠ 2) : hourP I a j = I a j := by
  unfold hourP meltP
  rw [iu_k h, iu_k h, iu_k h, iu_k h, iu_k h, iu_k h]
theorem hourP_2 {I : IM} {k : Nat} (h : k < 6) : hourP I (18 + k) 2 = meltD (I (18 + k) 0) (I (18 + k) 2) (I (18 + k) 3) (I 4 5) := by
  rcases (show k = 0 ∨ k = 1 ∨ k = 2 ∨ k = 3 ∨ k = 4 ∨ k = 5 by omega) with rfl | rfl | rfl | rfl | rfl | rfl <;> rfl
theorem potsM_o {I : IM} {a : Nat} (h : a ≠ 55) : potsM I a = I a := by
  unfold potsM potM
  rw [iu_ne a h, iu_ne a h, iu_ne a h, iu_ne a h, iu_ne a h, iu_ne a h]
theorem potsM_56 {I : IM} {k : Nat} (h : k < 6) : potsM I 55 k = meltM (I 53 k) (I 55 k) (I 56 k) (I 47 4) := by
  rcases (show k = 0 ∨ k = 1 ∨ k = 2 ∨ k = 3 ∨ k = 4 ∨ k = 5 by omega) with rfl | rfl | rfl | rfl | rfl | rfl <;> rfl
theorem melt_eq {b d : Nat} {x y : Int32} (hb : b < 200) (hd : d < 2 ^ 30) : meltM (nI b) (nI d) x y = meltD (nI b) (nI d) x y ∧ ∃ e, e ≤ d + 3 ∧ meltD (nI b) (nI d) x y = nI e := by
  have n1 : ¬ nI b = -1 := nI_nm1 (by omega)
  have n0 : 0 ≤ nI b := nI_pos' (by omega)
  have er : rdy (nI b) (nI d) x = rdym (nI d) x := by unfold rdy rdym; rw [if_neg n1]
  have ed : (if 0 < nI d - 1 then nI d - 1 else 0) = (if nI d ≤ 0 then nI d else nI d - 1) ∧ ∃ e, e ≤ d + 3 ∧ (if 0 < nI d - 1 then nI d - 1 else 0) = nI e := by
    cases d with
    | zero => exact ⟨by decide, 0, by omega, by decide⟩
    | succ e =>
      rw [nI_pred, if_neg (nI_nle (n := e + 1) (by omega) (by omega))]
      rcases Nat.eq_zero_or_pos e with r | r
      · subst r; exact ⟨by decide, 0, by omega, by decide⟩
      · rw [if_pos (show (0 : Int32) < nI e from nI_lt (a := 0) r (by omega))]
        exact ⟨rfl, e, by omega, rfl⟩
  have e2 : nI d + 2 = nI (d + 2) := nI_add d 2
  have e3 : nI d + 3 = nI (d + 3) := nI_add d 3
  unfold meltM meltD
  rw [if_pos n0, if_neg n1, er, e2, e3, ← ed.1]
  by_cases g1 : y < 1100
  · have g2 : y < 1300 := Int32.lt_trans g1 (by decide)
    rw [if_pos g2, if_pos g1, if_pos g1]
    refine ⟨rfl, ?_⟩
    split
    · exact ⟨d, by omega, rfl⟩
    · split
      · exact ed.2
      · exact ⟨d, by omega, rfl⟩
  · rw [if_neg g1, if_neg g1]
    refine ⟨rfl, ?_⟩
    split
    · exact ⟨d + 2, by omega, rfl⟩
    · exact ⟨d + 3, by omega, rfl⟩
theorem pots_eq {k : Nat} (h : HP Ic Im D k) (hk : k < 6) (hh : Im 47 4 = Ic 4 5) (hD : D < 2 ^ 30) : HP (hourP Ic) (potsM Im) (D + 3) k := by
  obtain ⟨h0, h1⟩ := h
  unfold HP
  rw [hourP_k (a := 18 + k) (j := 0) (by decide), hourP_k (a := 18 + k) (j := 1) (by decide), hourP_k (a := 18 + k) (j := 3) (by decide), hourP_k (a := 18 + k) (j := 4) (by decide), potsM_o (a := 53) (by decide), potsM_o (a := 54) (by decide), potsM_o (a := 56) (by decide), potsM_o (a := 57) (by decide), potsM_56 hk, hourP_2 hk]
  refine ⟨h0, ?_⟩
  rcases h1 with h1 | ⟨⟨b, hb, eb⟩, g1, g2, g3, g4, d, hd, ed⟩
  · exact Or.inl h1
  · obtain ⟨m1, e, he, me⟩ := melt_eq (b := b) (d := d) (x := Ic (18 + k) 3) (y := Ic 4 5) hb (by omega)
    refine Or.inr ⟨⟨b, hb, eb⟩, g1, ?_, g3, g4, e, by omega, ?_⟩
    · rw [h0, g2, g3, hh, eb, ed]
      exact m1
    · rw [eb, ed]
      exact me
end Hr
/-- the bays -/
def cF (I : IM) (p j : Nat) : Int32 := if j = 8 then I p 8 + 1 else if j = 6 ∧ ¬ I p 8 + 1 < I p 5 then 1 else I p j
theorem coolL_val : ∀ (l : List Nat) (I : IM), l.Nodup → (∀ a j, (coolL l I).2 a j = if a ∈ l then cF I a j else I a j) ∧ (coolL l I).1 = l.filter (fun p => decide (I p 8 + 1 < I p 5))
  | [], I, _ => ⟨fun a j => by simp [coolL], rfl⟩
  | p :: t, I, h => by
    obtain ⟨hp, ht⟩ := List.nodup_cons.mp h
    by_cases hk : I p 8 + 1 < I p 5
    · have e : coolL (p :: t) I = (p :: (coolL t (iu I p 8 (I p 8 + 1))).1, (coolL t (iu I p 8 (I p 8 + 1))).2) := by
        show (if I p 8 + 1 < I p 5 then _ else _) = _
        rw [if_pos hk]
      obtain ⟨i1, i2⟩ := coolL_val t (iu I p 8 (I p 8 + 1)) ht
      rw [e]
      constructor
      · intro a j
        show (coolL t (iu I p 8 (I p 8 + 1))).2 a j = _
        rw [i1 a j]
        by_cases ha : a = p
        · subst ha
          rw [if_neg hp, if_pos List.mem_cons_self]
          unfold cF
          rw [iu_ap]
          by_cases h8 : j = 8
          · simp [h8]
          · simp [h8, hk]
        · have em : a ∈ p :: t ↔ a ∈ t := by simp [ha]
          unfold cF
          rw [iu_o ha, iu_o ha, iu_o ha]
          by_cases hm : a ∈ t
          · rw [if_pos hm, if_pos (em.mpr hm)]
          · rw [if_neg hm, if_neg (fun z => hm (em.mp z))]
      · show p :: (coolL t (iu I p 8 (I p 8 + 1))).1 = _
        rw [i2, List.filter_cons, if_pos (decide_eq_true hk)]
        congr 1
        apply List.filter_congr
        intro q hq
        have : q ≠ p := fun z => hp (z ▸ hq)
        rw [iu_o this, iu_o this]
    · have e : coolL (p :: t) I = coolL t (iu (iu I p 8 (I p 8 + 1)) p 6 1) := by
        show (if I p 8 + 1 < I p 5 then _ else _) = _
        rw [if_neg hk]
      obtain ⟨i1, i2⟩ := coolL_val t (iu (iu I p 8 (I p 8 + 1)) p 6 1) ht
      rw [e]
      constructor
      · intro a j
        rw [i1 a j]
        by_cases ha : a = p
        · subst ha
          rw [if_neg hp, if_pos List.mem_cons_self]
          unfold cF
          rw [iu_ap, iu_ap]
          by_cases h8 : j = 8
          · simp [h8]
          · by_cases h6 : j = 6
            · simp [h6, hk]
            · simp [h8, h6]
        · have em : a ∈ p :: t ↔ a ∈ t := by simp [ha]
          unfold cF
          rw [iu_o ha, iu_o ha, iu_o ha, iu_o ha, iu_o ha, iu_o ha]
          by_cases hm : a ∈ t
          · rw [if_pos hm, if_pos (em.mpr hm)]
          · rw [if_neg hm, if_neg (fun z => hm (em.mp z))]
      · rw [i2, List.filter_cons, if_neg (by simpa using hk)]
        apply List.filter_congr
        intro q hq
        have : q ≠ p := fun z => hp (z ▸ hq)
        rw [iu_o this, iu_o this, iu_o this, iu_o this]
theorem flip_len {p p' : Nat → Bool} {k : Nat} (h1 : p k = true) (h2 : p' k = false) (h3 : ∀ j, j ≠ k → p' j = p j) : ∀ n, k < n → ((List.range n).filter p').length + 1 = ((List.range n).filter p).length
  | 0, h => absurd h (Nat.not_lt_zero _)
  | n + 1, h => by
    rw [List.range_succ, List.filter_append, List.filter_append, List.length_append, List.length_append]
    by_cases e : k = n
    · subst e
      have : (List.range k).filter p' = (List.range k).filter p := by
        apply List.filter_congr
        intro j hj
        exact h3 j (by have := List.mem_range.mp hj; omega)
      rw [this]
      simp [h1, h2]
    · have ih := flip_len h1 h2 h3 n (by omega)
      have : [n].filter p' = [n].filter p := by
        apply List.filter_congr
        intro j hj
        rw [List.mem_singleton] at hj
        exact h3 j (by omega)
      rw [this]
      omega
/-- the reference's hour of the pieces -/
theorem coolM1_72v {I : IM} {k j : Nat} : coolM1 I k 71 j = if j = k ∧ I 71 k = 0 ∧ I 74 k ≤ I 73 k + 1 then 1 else I 71 j := by
  unfold coolM1
  by_cases h1 : I 71 k = 0
  · rw [if_pos h1]
    by_cases h2 : I 74 k ≤ I 73 k + 1
    · rw [if_pos h2]
      simp [iu_ap, h1, h2]
    · rw [if_neg h2]
      simp [iu_ap, h2]
  · rw [if_neg h1]
    simp [h1]
theorem coolM1_74v {I : IM} {k j : Nat} : coolM1 I k 73 j = if j = k ∧ I 71 k = 0 then I 73 k + 1 else I 73 j := by
  unfold coolM1
  by_cases h1 : I 71 k = 0
  · rw [if_pos h1]
    by_cases h2 : I 74 k ≤ I 73 k + 1
    · rw [if_pos h2]
      simp [iu_ap, h1]
    · rw [if_neg h2]
      simp [iu_ap, h1]
  · rw [if_neg h1]
    simp [h1]
theorem coolM1_o {I : IM} {k a : Nat} (h72 : a ≠ 71) (h74 : a ≠ 73) (h77 : a ≠ 76) : coolM1 I k a = I a := by
  unfold coolM1
  by_cases h1 : I 71 k = 0
  · rw [if_pos h1]
    by_cases h2 : I 74 k ≤ I 73 k + 1
    · rw [if_pos h2, iu_ne a h77, iu_ne a h72, iu_ne a h74]
    · rw [if_neg h2, iu_ne a h74]
  · rw [if_neg h1]
theorem coolM_o {a : Nat} (h72 : a ≠ 71) (h74 : a ≠ 73) (h77 : a ≠ 76) : ∀ (m k : Nat) (I : IM), coolM m k I a = I a
  | 0, _, _ => rfl
  | m + 1, k, I => (coolM_o h72 h74 h77 m (k + 1) (coolM1 I k)).trans (coolM1_o h72 h74 h77)
theorem coolM_v : ∀ (m k : Nat) (I : IM) (j : Nat), (coolM m k I 71 j = if (k ≤ j ∧ j < k + m) ∧ I 71 j = 0 ∧ I 74 j ≤ I 73 j + 1 then 1 else I 71 j) ∧ (coolM m k I 73 j = if (k ≤ j ∧ j < k + m) ∧ I 71 j = 0 then I 73 j + 1 else I 73 j)
  | 0, k, I, j => by
    have : ¬ (k ≤ j ∧ j < k + 0) := by omega
    exact ⟨by rw [if_neg (fun z => this z.1)]; rfl, by rw [if_neg (fun z => this z.1)]; rfl⟩
  | m + 1, k, I, j => by
    obtain ⟨i1, i2⟩ := coolM_v m (k + 1) (coolM1 I k) j
    show (coolM m (k + 1) (coolM1 I k) 71 j = _) ∧ (coolM m (k + 1) (coolM1 I k) 73 j = _)
    rw [i1, i2, coolM1_o (a := 74) (by decide) (by decide) (by decide), coolM1_72v, coolM1_74v]
    by_cases e : j = k
    · subst e
      have n1 : ¬ (j + 1 ≤ j ∧ j < j + 1 + m) := by omega
      have n2 : j ≤ j ∧ j < j + (m + 1) := by omega
      simp only [n1, n2, false_and, if_false, true_and]
    · have n1 : (k + 1 ≤ j ∧ j < k + 1 + m) ↔ (k ≤ j ∧ j < k + (m + 1)) := by omega
      simp only [e, false_and, if_false, n1]
      exact ⟨trivial, trivial⟩
def LenOK (I : IM) (np : Nat) : Prop := (∀ b, b < 3 → I 76 b = nI ((List.range np).filter (inB I b)).length) ∧ ∀ k, k < np → I 71 k = 0 → ∃ b, b < 3 ∧ I 72 k = nI b
theorem LenOK.step {I : IM} {np k : Nat} (h : LenOK I np) (hk : k < np) : LenOK (coolM1 I k) np := by
  obtain ⟨h1, h2⟩ := h
  have e73 : coolM1 I k 72 = I 72 := coolM1_o (by decide) (by decide) (by decide)
  have inb : ∀ j, j < np → coolM1 I k 71 j = 0 → ∃ b, b < 3 ∧ coolM1 I k 72 j = nI b := by
    intro j hj hz
    rw [e73]
    exact h2 j hj (coolM1_72 hz)
  refine ⟨fun b hb => ?_, inb⟩
  by_cases hs : I 71 k = 0 ∧ I 74 k ≤ I 73 k + 1
  · obtain ⟨b0, hb0, e0⟩ := h2 k hk hs.1
    have e77 : coolM1 I k 76 b = if b = b0 then I 76 b - 1 else I 76 b := by
      unfold coolM1
      rw [if_pos hs.1, if_pos hs.2, e0, ixn (by omega)]
      by_cases e : b = b0
      · subst e; rw [if_pos rfl, iu_same]
      · rw [if_neg e, iu_k e]; rfl
    by_cases e : b = b0
    · subst e
      have fl := flip_len (p := inB I b) (p' := inB (coolM1 I k) b) (k := k) (by unfold inB; exact decide_eq_true ⟨hs.1, e0⟩) (by
        unfold inB
        rw [coolM1_72v, if_pos ⟨rfl, hs⟩]
        simp) (fun j hj => by
        unfold inB
        rw [coolM1_72v, if_neg (fun z => hj z.1), e73]) np hk
      rw [e77, if_pos rfl, h1 b hb, ← fl, nI_pred]
    · have : (List.range np).filter (inB (coolM1 I k) b) = (List.range np).filter (inB I b) := by
        apply List.filter_congr
        intro j _
        unfold inB
        rw [coolM1_72v, e73]
        by_cases ej : j = k
        · subst ej
          have nb : ¬ I 72 j = nI b := by
            rw [e0]
            intro w
            exact e ((nI_eq (by omega) (by omega)).mp w).symm
          simp [nb]
        · rw [if_neg (fun z => ej z.1)]
      rw [e77, if_neg e, h1 b hb, this]
  · have e77 : coolM1 I k 76 = I 76 := by
      unfold coolM1
      by_cases g1 : I 71 k = 0
      · rw [if_pos g1, if_neg (fun z => hs ⟨g1, z⟩)]; rfl
      · rw [if_neg g1]
    have : (List.range np).filter (inB (coolM1 I k) b) = (List.range np).filter (inB I b) := by
      apply List.filter_congr
      intro j _
      unfold inB
      rw [coolM1_72v, e73, if_neg (fun z => hs z.2)]
    rw [e77, h1 b hb, this]
theorem LenOK.all {np : Nat} : ∀ (m k : Nat) (I : IM), k + m = np → LenOK I np → LenOK (coolM m k I) np
  | 0, _, _, _, h => h
  | m + 1, k, I, hk, h => LenOK.all m (k + 1) (coolM1 I k) (by omega) (h.step (by omega))
