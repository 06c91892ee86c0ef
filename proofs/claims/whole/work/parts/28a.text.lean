/-! ===== the text of spans, both ===== -/
theorem by_tab : ∀ v, v < 256 → (pbl (nI v) = pbl (nI v).toInt8.toInt32 ∧ plet (nI v) = plet (nI v).toInt8.toInt32 ∧ pdig (nI v) = pdig (nI v).toInt8.toInt32 ∧ (nI v).toInt8.toInt32 &&& 255 = nI v ∧ (pdig (nI v) = true → (nI v).toInt8.toInt32 = nI v ∧ 48 ≤ v ∧ v ≤ 57)) := by decide +kernel
theorem BY.and {x y : Int32} (h : BY x y) : y &&& 255 = x := by
  obtain ⟨v, hv, rfl, rfl⟩ := h
  exact (by_tab v hv).2.2.2.1
theorem BY.inj {x y x' y' : Int32} (h : BY x y) (h' : BY x' y') : x = x' ↔ y = y' := by
  constructor
  · intro e
    obtain ⟨v, hv, rfl, rfl⟩ := h
    obtain ⟨w, hw, rfl, rfl⟩ := h'
    rw [(nI_eq (by omega) (by omega)).mp e]
  · intro e
    rw [← h.and, ← h'.and, e]
section Tx
variable {T U : Nat → Int32} {n : Nat}
theorem scan_c {p : Int32 → Bool} (h : ∀ k, p (T k) = p (U k)) : ∀ (f i : Nat), scan p T n f i = scan p U n f i
  | 0, _ => rfl
  | f + 1, i => by
    unfold scan
    rw [h i, scan_c h f (i + 1)]
theorem by_p (h : ∀ k, BY (T k) (U k)) : (∀ k, pbl (T k) = pbl (U k)) ∧ (∀ k, plet (T k) = plet (U k)) ∧ ∀ k, pdig (T k) = pdig (U k) := by
  refine ⟨fun k => ?_, fun k => ?_, fun k => ?_⟩
  · obtain ⟨v, hv, e1, e2⟩ := h k
    rw [e1, e2]; exact (by_tab v hv).1
  · obtain ⟨v, hv, e1, e2⟩ := h k
    rw [e1, e2]; exact (by_tab v hv).2.1
  · obtain ⟨v, hv, e1, e2⟩ := h k
    rw [e1, e2]; exact (by_tab v hv).2.2.1
theorem spJ_c (h : ∀ k, BY (T k) (U k)) (i : Nat) : spJ U n i = spJ T n i := (scan_c (by_p h).2.1 _ _).symm
theorem spK_c (h : ∀ k, BY (T k) (U k)) (i : Nat) : spK U n i = spK T n i := (scan_c (by_p h).1 _ _).symm
theorem sameF_c (h : ∀ k, BY (T k) (U k)) (a b : Nat) : ∀ (m k : Nat), sameF U a b m k = sameF T a b m k
  | 0, _ => rfl
  | m + 1, k => by
    unfold sameF
    rw [sameF_c h a b m (k + 1)]
    by_cases e : T (a + k) = T (b + k)
    · rw [if_pos e, if_pos (((h _).inj (h _)).mp e)]
    · rw [if_neg e, if_neg (fun z => e (((h _).inj (h _)).mpr z))]
def NH (c : Nat) (v w : Int32) : Prop := c ≤ 3 → ∃ x, x < 10 ^ c ∧ v = nI (min 101 x) ∧ w = nI x
theorem dig_step {x d : Nat} (hx : x < 1000) (hd : d ≤ 9) : mn 101 (10 * nI (min 101 x) + nI (48 + d) - 48) = nI (min 101 (10 * x + d)) ∧ 10 * nI x + nI (48 + d) - 48 = nI (10 * x + d) := by
  have key : ∀ y, 10 * nI y + nI (48 + d) - 48 = nI (10 * y + d) := by
    intro y
    rw [show (10 : Int32) = nI 10 from rfl, show (48 : Int32) = nI 48 from rfl, pk_mul, nI_add, pk_sub (by omega)]
    congr 1
    omega
  refine ⟨?_, key x⟩
  rw [key]
  unfold mn
  have hm : min 101 x ≤ 101 := Nat.min_le_left _ _
  by_cases g : 10 * min 101 x + d < 101
  · rw [if_pos (show nI (10 * min 101 x + d) < (101 : Int32) from nI_lt (b := 101) g (by decide))]
    congr 1
    omega
  · rw [if_neg (show ¬ nI (10 * min 101 x + d) < (101 : Int32) from nI_nlt (b := 101) (by omega) (by omega))]
    show nI 101 = _
    congr 1
    omega
theorem num_eq (h : ∀ k, BY (T k) (U k)) : ∀ (f k c : Nat) (v w : Int32), c + f < 2 ^ 20 → NH c v w → (numM U n f k (nI c) w).1 = (numC T n f k v).1 ∧ (numM U n f k (nI c) w).2.1 = nI (c + ((numC T n f k v).1 - k)) ∧ NH (c + ((numC T n f k v).1 - k)) (numC T n f k v).2 (numM U n f k (nI c) w).2.2 ∧ k ≤ (numC T n f k v).1
  | 0, k, c, v, w, _, hN => by
    have e : c + (k - k) = c := by omega
    refine ⟨rfl, ?_, ?_, Nat.le_refl _⟩
    · show nI c = nI (c + (k - k)); rw [e]
    · show NH (c + (k - k)) v w; rw [e]; exact hN
  | f + 1, k, c, v, w, hc, hN => by
    have hp := (by_p h).2.2 k
    by_cases g : k < n ∧ pdig (T k) = true
    · have g' : k < n ∧ pdig (U k) = true := by rw [← hp]; exact g
      have e1 : numC T n (f + 1) k v = numC T n f (k + 1) (mn 101 (10 * v + T k - 48)) := by
        show (if k < n ∧ pdig (T k) = true then _ else _) = _
        rw [if_pos g]
      have e2 : numM U n (f + 1) k (nI c) w = numM U n f (k + 1) (nI (c + 1)) (if 3 ≤ nI c then w else 10 * w + U k - 48) := by
        show (if k < n ∧ pdig (U k) = true then numM U n f (k + 1) (nI c + 1) (if 3 ≤ nI c then w else 10 * w + U k - 48) else _) = _
        rw [if_pos g', nI_1]
      have hN' : NH (c + 1) (mn 101 (10 * v + T k - 48)) (if 3 ≤ nI c then w else 10 * w + U k - 48) := by
        intro c3
        obtain ⟨x, hx, ev, ew⟩ := hN (by omega)
        obtain ⟨b, hb, t1, t2⟩ := h k
        have hd := (by_tab b hb).2.2.2.2 (by rw [← t1]; exact g.2)
        have hx3 : x < 1000 := Nat.lt_of_lt_of_le hx (Nat.le_trans (Nat.pow_le_pow_right (by decide) (show c ≤ 3 by omega)) (by decide))
        have n3 : ¬ 3 ≤ nI c := nI_ge (b := 3) (by omega) (by decide)
        obtain ⟨d, rfl⟩ : ∃ d, b = 48 + d := ⟨b - 48, by omega⟩
        obtain ⟨s1, s2⟩ := dig_step (x := x) (d := d) hx3 (by omega)
        refine ⟨10 * x + d, ?_, ?_, ?_⟩
        · rw [Nat.pow_succ]; omega
        · rw [ev, t1, s1]
        · rw [if_neg n3, ew, t2, hd.1, s2]
      obtain ⟨i1, i2, i3, i4⟩ := num_eq h f (k + 1) (c + 1) _ _ (by omega) hN'
      rw [e1, e2]
      have ea : c + 1 + ((numC T n f (k + 1) (mn 101 (10 * v + T k - 48))).1 - (k + 1)) = c + ((numC T n f (k + 1) (mn 101 (10 * v + T k - 48))).1 - k) := by omega
      rw [ea] at i2 i3
      exact ⟨i1, i2, i3, by omega⟩
    · have g' : ¬ (k < n ∧ pdig (U k) = true) := by rw [← hp]; exact g
      have e1 : numC T n (f + 1) k v = (k, v) := by
        show (if k < n ∧ pdig (T k) = true then _ else _) = _
        rw [if_neg g]
      have e2 : numM U n (f + 1) k (nI c) w = (k, nI c, w) := by
        show (if k < n ∧ pdig (U k) = true then _ else _) = _
        rw [if_neg g']
      rw [e1, e2]
      have e : c + (k - k) = c := by omega
      refine ⟨rfl, ?_, ?_, Nat.le_refl _⟩
      · show nI c = nI (c + (k - k)); rw [e]
      · show NH (c + (k - k)) v w; rw [e]; exact hN
theorem see_c (h : ∀ k, BY (T k) (U k)) (s : Nat) : seeR U n s = if s < n then T s else -1 := by
  unfold seeR
  split
  · exact (h s).and
  · rfl
theorem scan_stop {p : Int32 → Bool} {f i : Nat} : scan p T n (f + 1) i = i ↔ ¬ (i < n ∧ p (T i) = true) := by
  unfold scan
  split
  · rename_i g
    constructor
    · intro e
      have := scan_ge p T n f (i + 1)
      omega
    · intro e; exact absurd g e
  · rename_i g
    exact ⟨fun _ => g, fun _ => rfl⟩
/-- a number: both readers at the same place -/
theorem num_both (h : ∀ k, BY (T k) (U k)) {k : Nat} (hk : k ≤ n) (hn : n ≤ 200) :
    (numM U n (n - k) k 0 0).1 = (spN T n k).1 ∧ (wI (seeR U n k) 48 57 = 0 ↔ (spN T n k).1 = k) ∧ (3 < (numM U n (n - k) k 0 0).2.1 ↔ 3 < nI (spN T n k).1 - nI k) ∧ (¬ 3 < nI (spN T n k).1 - nI k → ∃ x, x < 1000 ∧ (spN T n k).2 = nI (min 101 x) ∧ (numM U n (n - k) k 0 0).2.2 = nI x) := by
  have hb := spN_b (T := T) hk
  obtain ⟨i1, i2, i3, i4⟩ := num_eq (n := n) h (n - k) k 0 0 0 (by omega) (fun _ => ⟨0, by decide, rfl, rfl⟩)
  have e0 : nI 0 = 0 := rfl
  rw [e0] at i1 i2 i3
  rw [Nat.zero_add] at i2 i3
  have es : nI (spN T n k).1 - nI k = nI ((spN T n k).1 - k) := pk_sub hb.1
  refine ⟨i1, ?_, ?_, ?_⟩
  · rw [see_c h k]
    have e1 : (spN T n k).1 = scan pdig T n (n - k) k := numC_1 T n (n - k) k 0
    rw [e1]
    by_cases g : k < n
    · rw [if_pos g]
      obtain ⟨m, hm⟩ : ∃ m, n - k = m + 1 := ⟨n - k - 1, by omega⟩
      rw [hm, scan_stop]
      unfold pdig
      constructor
      · intro z w; exact (of_decide_eq_true w.2) z
      · intro z
        rcases Classical.em (wI (T k) 48 57 = 0) with w | w
        · exact w
        · exact absurd ⟨g, decide_eq_true w⟩ z
    · rw [if_neg g]
      have : n - k = 0 := by omega
      rw [this]
      exact ⟨fun _ => rfl, fun _ => by decide⟩
  · rw [es]
    rw [i2]
    exact Iff.rfl
  · rw [es]
    intro g
    have hle : (spN T n k).1 - k ≤ 3 := by
      rcases Nat.lt_or_ge 3 ((spN T n k).1 - k) with z | z
      · exact absurd (nI_lt (a := 3) z (by omega)) g
      · exact z
    obtain ⟨x, hx, ev, ew⟩ := i3 hle
    exact ⟨x, Nat.lt_of_lt_of_le hx (Nat.le_trans (Nat.pow_le_pow_right (by decide) hle) (by decide)), ev, ew⟩
theorem numR_case {k e : Nat} {v : Int32} : (numR k e v = -1 ∧ (nI e = nI k ∨ 3 < nI e - nI k ∨ ¬ v ≤ 100)) ∨ (¬ nI e = nI k ∧ ¬ 3 < nI e - nI k ∧ v ≤ 100 ∧ numR k e v = v) := by
  unfold numR
  by_cases h1 : nI e = nI k
  · rw [if_pos h1]; exact Or.inl ⟨rfl, Or.inl h1⟩
  rw [if_neg h1]
  by_cases h2 : 3 < nI e - nI k
  · rw [if_pos h2]; exact Or.inl ⟨rfl, Or.inr (Or.inl h2)⟩
  rw [if_neg h2]
  by_cases h3 : v ≤ 100
  · rw [if_pos h3]; exact Or.inr ⟨h1, h2, h3, rfl⟩
  · rw [if_neg h3]; exact Or.inl ⟨rfl, Or.inr (Or.inr h3)⟩
/-- the class's number as the reference judges it -/
theorem num_judge (h : ∀ k, BY (T k) (U k)) {I : IM} (hU : I 77 = U) {i k : Nat} (hs : seeJ I n i = k) (hk : k ≤ n) (hn : n ≤ 200) {lo : Nat} (hlo : lo ≤ 100) :
    (¬ nbR I n i (nI lo) 100 = 0 ↔ ∃ x, x ≤ 100 ∧ lo ≤ x ∧ numR k (spN T n k).1 (spN T n k).2 = nI x) ∧ (∀ x, x ≤ 100 → numR k (spN T n k).1 (spN T n k).2 = nI x → (numM U n (n - k) k 0 0).2.2 = nI x) ∧ (numR k (spN T n k).1 (spN T n k).2 = -1 ∨ ∃ x, x ≤ 100 ∧ numR k (spN T n k).1 (spN T n k).2 = nI x) := by
  obtain ⟨m1, m2, m3, m4⟩ := num_both h hk hn
  have hb := spN_b (T := T) hk
  have ee : nI (spN T n k).1 = nI k ↔ (spN T n k).1 = k := nI_eq (by omega) (by omega)
  unfold nbR
  rw [hs, hU]
  rcases numR_case (k := k) (e := (spN T n k).1) (v := (spN T n k).2) with ⟨r1, r2⟩ | ⟨r1, r2, r3, r4⟩
  · refine ⟨⟨fun g => ?_, fun ⟨x, hx, _, ex⟩ => ?_⟩, fun x hx ex => ?_, Or.inl r1⟩
    · exfalso
      apply g
      by_cases c1 : wI (seeR U n k) 48 57 = 0
      · rw [if_pos c1]
      rw [if_neg c1]
      by_cases c2 : 3 < (numM U n (n - k) k 0 0).2.1
      · rw [if_pos c2]
      rw [if_neg c2]
      have c2' : ¬ 3 < nI (spN T n k).1 - nI k := fun z => c2 (m3.mpr z)
      obtain ⟨x, hx, ev, ew⟩ := m4 c2'
      rcases r2 with z | z | z
      · exact absurd (m2.mpr (ee.mp z)) c1
      · exact absurd z c2'
      · have hx2 : 100 < x := by
          rcases Nat.lt_or_ge 100 x with q | q
          · exact q
          · exfalso
            apply z
            rw [ev, Nat.min_eq_right (by omega)]
            exact nI_le (b := 100) q (by decide)
        rw [if_pos]
        rw [ew, wI_iff]
        intro q
        rw [nI_toInt (by omega), nI_toInt (by omega), show (100 : Int32).toInt = 100 by decide] at q
        omega
    · rw [r1] at ex
      exact absurd ex.symm (nI_nm1 (by omega))
    · rw [r1] at ex
      exact absurd ex.symm (nI_nm1 (by omega))
  · obtain ⟨x, hx, ev, ew⟩ := m4 r2
    have hx2 : x ≤ 100 := by
      rcases Nat.lt_or_ge 100 x with q | q
      · exfalso
        rw [ev, Nat.min_eq_left (by omega)] at r3
        exact absurd r3 (by decide)
      · exact q
    have ev' : (spN T n k).2 = nI x := by rw [ev, Nat.min_eq_right (by omega)]
    have c1 : ¬ wI (seeR U n k) 48 57 = 0 := fun z => r1 (ee.mpr (m2.mp z))
    have c2 : ¬ 3 < (numM U n (n - k) k 0 0).2.1 := fun z => r2 (m3.mp z)
    rw [if_neg c1, if_neg c2, ew, r4, ev']
    have hx100 : (100 : Int32).toInt = 100 := by decide
    refine ⟨⟨fun g => ⟨x, hx2, ?_, rfl⟩, fun ⟨y, hy, ly, ey⟩ => ?_⟩, fun y hy ey => ey, Or.inr ⟨x, hx2, rfl⟩⟩
    · rcases Nat.lt_or_ge x lo with q | q
      · exfalso
        apply g
        rw [if_pos]
        rw [wI_iff, nI_toInt (by omega), nI_toInt (by omega)]
        omega
      · exact q
    · have exy : x = y := (nI_eq (by omega) (by omega)).mp ey
      subst exy
      rw [if_neg]
      · decide
      · rw [wI_iff, nI_toInt (by omega), nI_toInt (by omega), hx100]
        omega
end Tx
