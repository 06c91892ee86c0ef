/-! ===== the relation kept: kind, drop, lay, feed; the queries ===== -/
section RelN
variable {sh : List Sh} {I : IM} {J : JM} {R : RM} {c : Nat}
theorem kindS_o {a b : Nat} {w m p cl x y : Int32} (hb : b ≠ a) : kindS I a w m p cl x y b = I b := by
  unfold kindS
  rw [iu_ne b hb, iu_ne b hb, iu_ne b hb, iu_ne b hb, iu_ne b hb, iu_ne b hb, iu_ne b hb]
theorem kindSm_o {q b : Nat} {w m p cl x y : Int32} (hb : b < 58 ∨ 64 < b) : kindSm I q w m p cl x y b = I b := by
  unfold kindSm
  rw [iu_ne b (by omega), iu_ne b (by omega), iu_ne b (by omega), iu_ne b (by omega), iu_ne b (by omega), iu_ne b (by omega), iu_ne b (by omega)]
theorem kindSm_k {q b j : Nat} {w m p cl x y : Int32} (hj : j ≠ q) : kindSm I q w m p cl x y b j = I b j := by
  unfold kindSm
  rw [iu_k hj, iu_k hj, iu_k hj, iu_k hj, iu_k hj, iu_k hj, iu_k hj]
theorem kind_kd (h : RKd I) {q : Nat} (hq : q < 5) {w m p cl x y : Int32} (hw : ∃ v, 1 ≤ v ∧ v ≤ 50 ∧ w = nI v) (hm : ∃ v, 1 ≤ v ∧ v ≤ 60 ∧ m = nI v) (hp : ∃ v, 1 ≤ v ∧ v ≤ 10000 ∧ p = nI v) : RKd (kindSm (kindS I (25 + q) w m p cl x y) q w m p cl x y) := by
  intro k hk
  have q0 := h k hk
  rw [kindSm_o (b := 25 + k) (by omega)]
  by_cases e : k = q
  · subst e
    refine ⟨fun f hf => ?_, Or.inr ⟨?_, ?_, ?_, ?_⟩⟩
    · rcases (show f = 0 ∨ f = 1 ∨ f = 2 ∨ f = 3 ∨ f = 4 ∨ f = 5 ∨ f = 6 ∨ f = 7 by omega) with rfl | rfl | rfl | rfl | rfl | rfl | rfl | rfl
      · simp [kindSm, kindS, iu_ap]
      · simp [kindSm, kindS, iu_ap]
      · simp [kindSm, kindS, iu_ap]
      · simp [kindSm, kindS, iu_ap]
      · simp [kindSm, kindS, iu_ap]
      · simp [kindSm, kindS, iu_ap]
      · simp [kindSm, kindS, iu_ap]
      · rw [kindSm_o (b := 58 + 7) (by omega), kindS_o (b := 58 + 7) (by omega), q0.1 7 (by decide)]
        simp [kindS, iu_ap]
    · simp [kindS, iu_ap]
    · obtain ⟨v, h1, h2, h3⟩ := hw
      exact ⟨v, h1, h2, by simp [kindS, iu_ap, h3]⟩
    · obtain ⟨v, h1, h2, h3⟩ := hm
      exact ⟨v, h1, h2, by simp [kindS, iu_ap, h3]⟩
    · obtain ⟨v, h1, h2, h3⟩ := hp
      exact ⟨v, h1, h2, by simp [kindS, iu_ap, h3]⟩
  · rw [kindS_o (b := 25 + k) (by omega)]
    refine ⟨fun f hf => ?_, q0.2⟩
    rw [kindSm_k e, kindS_o (b := 58 + f) (by omega)]
    exact q0.1 f hf
theorem kind_rel (h : Rel sh I J R c) {q : Nat} (hq : q < 5) {w m p cl x y : Int32} (hw : ∃ v, 1 ≤ v ∧ v ≤ 50 ∧ w = nI v) (hm : ∃ v, 1 ≤ v ∧ v ≤ 60 ∧ m = nI v) (hp : ∃ v, 1 ≤ v ∧ v ≤ 10000 ∧ p = nI v) : Rel sh (kindSm (kindS I (25 + q) w m p cl x y) q w m p cl x y) J R (c + 1) := by
  have hkd := kind_kd h.kd hq (cl := cl) (x := x) (y := y) hw hm hp
  unfold kindSm kindS at hkd ⊢

  rcases (show q = 0 ∨ q = 1 ∨ q = 2 ∨ q = 3 ∨ q = 4 by omega) with rfl | rfl | rfl | rfl | rfl
  all_goals exact ⟨⟨h.st, h.wp, ((((((((((((((h.bl.iu (by have := h.st.len; omega)).iu (by have := h.st.len; omega)).iu (by have := h.st.len; omega)).iu (by have := h.st.len; omega)).iu (by have := h.st.len; omega)).iu (by have := h.st.len; omega)).iu (by have := h.st.len; omega)).iu (by have := h.st.len; omega)).iu (by have := h.st.len; omega)).iu (by have := h.st.len; omega)).iu (by have := h.st.len; omega)).iu (by have := h.st.len; omega)).iu (by have := h.st.len; omega)).iu (by have := h.st.len; omega))⟩, h.sc, h.rws, hkd, (h.pots.fr (fun a h1 h2 => by rw [iu_ne a (by omega), iu_ne a (by omega), iu_ne a (by omega), iu_ne a (by omega), iu_ne a (by omega), iu_ne a (by omega), iu_ne a (by omega), iu_ne a (by omega), iu_ne a (by omega), iu_ne a (by omega), iu_ne a (by omega), iu_ne a (by omega), iu_ne a (by omega), iu_ne a (by omega)]) (fun a h1 h2 => by rw [iu_ne a (by omega), iu_ne a (by omega), iu_ne a (by omega), iu_ne a (by omega), iu_ne a (by omega), iu_ne a (by omega), iu_ne a (by omega), iu_ne a (by omega), iu_ne a (by omega), iu_ne a (by omega), iu_ne a (by omega), iu_ne a (by omega), iu_ne a (by omega), iu_ne a (by omega)]) (Nat.le_refl _)), h.tx, h.shf, h.mv, (h.pc.fr (fun a h1 h2 => by rw [iu_ne a (by omega), iu_ne a (by omega), iu_ne a (by omega), iu_ne a (by omega), iu_ne a (by omega), iu_ne a (by omega), iu_ne a (by omega), iu_ne a (by omega), iu_ne a (by omega), iu_ne a (by omega), iu_ne a (by omega), iu_ne a (by omega), iu_ne a (by omega), iu_ne a (by omega)]) (fun a h1 => by rw [iu_ne a (by omega), iu_ne a (by omega), iu_ne a (by omega), iu_ne a (by omega), iu_ne a (by omega), iu_ne a (by omega), iu_ne a (by omega), iu_ne a (by omega), iu_ne a (by omega), iu_ne a (by omega), iu_ne a (by omega), iu_ne a (by omega), iu_ne a (by omega), iu_ne a (by omega)]) (fun b hb => by rw [iu_ne (31 + 2 * b) (by omega), iu_ne (31 + 2 * b) (by omega), iu_ne (31 + 2 * b) (by omega), iu_ne (31 + 2 * b) (by omega), iu_ne (31 + 2 * b) (by omega), iu_ne (31 + 2 * b) (by omega), iu_ne (31 + 2 * b) (by omega), iu_ne (31 + 2 * b) (by omega), iu_ne (31 + 2 * b) (by omega), iu_ne (31 + 2 * b) (by omega), iu_ne (31 + 2 * b) (by omega), iu_ne (31 + 2 * b) (by omega), iu_ne (31 + 2 * b) (by omega), iu_ne (31 + 2 * b) (by omega)]) rfl rfl (Nat.le_succ c))⟩

theorem wI_ge {x lo hi : Int32} {a b : Nat} (h : ¬ wI x lo hi = 0) (hl : lo = nI a) (hh : hi = nI b) (ha : a < 2 ^ 31) (hb : b < 2 ^ 31) : ∃ v, a ≤ v ∧ v ≤ b ∧ x = nI v := by
  have q := wI_int h
  rw [hl, hh, nI_toInt ha, nI_toInt hb] at q
  have e0 : (0 : Int32).toInt = 0 := by decide
  obtain ⟨v, hv, rfl⟩ := nI_of (x := x) (by rw [Int32.lt_iff_toInt_lt, e0]; omega)
  rw [nI_toInt hv] at q
  exact ⟨v, by omega, by omega, rfl⟩
theorem r_kind (h : Rel sh I J R c) (k w m p cl x y : Int32) : Rel sh (kindIm (kindI I k w m p cl x y) k w m p cl x y) J R (c + 1) := by
  by_cases h1 : kindOk k w m p cl x y = true
  · simp only [kindI, kindIm, if_pos h1]
    unfold kindOk at h1
    simp only [Bool.and_eq_true, Bool.not_eq_true', beq_eq_false_iff_ne, ne_eq] at h1
    obtain ⟨e, l⟩ := ix_le (n := 4) h1.1 rfl (by decide)
    exact kind_rel h (by omega) (wI_ge h1.2.1 (a := 1) (b := 50) rfl rfl (by decide) (by decide)) (wI_ge h1.2.2.1 (a := 1) (b := 60) rfl rfl (by decide) (by decide)) (wI_ge h1.2.2.2.1 (a := 1) (b := 10000) rfl rfl (by decide) (by decide))
  · simp only [kindI, kindIm, if_neg h1]
    exact h.mono
theorem drop_rel (h : Rel sh I J R c) {q : Nat} (hq : q < 6) (x : Int32) : Rel sh (iu (iu (iu (iu (iu I (18 + q) 0 (-1)) (18 + q) 1 0) 0 12 x) 47 5 x) 53 q (-1)) J R (c + 1) := by
  have hp : RPots (iu (iu (iu (iu (iu I (18 + q) 0 (-1)) (18 + q) 1 0) 0 12 x) 47 5 x) 53 q (-1)) := by
    intro k hk
    have q0 := h.pots k hk
    by_cases e : k = q
    · subst e
      exact ⟨by simp [iu_ap], Or.inl (by simp [iu_ap])⟩
    · have n1 : ¬ 18 + k = 18 + q := by omega
      have n2 : ¬ 18 + k = 0 := by omega
      have n3 : ¬ 18 + k = 47 := by omega
      have n4 : ¬ 18 + k = 53 := by omega
      have n5 : ¬ 53 = 18 + q := by omega
      have n6 : ¬ 54 = 18 + q := by omega
      have n7 : ¬ 55 = 18 + q := by omega
      have n8 : ¬ 56 = 18 + q := by omega
      have n9 : ¬ 57 = 18 + q := by omega
      have na : ¬ 0 = 18 + q := by omega
      unfold RPt at q0 ⊢
      simpa [iu_ap, e, n1, n2, n3, n4, n5, n6, n7, n8, n9, na] using q0

  rcases (show q = 0 ∨ q = 1 ∨ q = 2 ∨ q = 3 ∨ q = 4 ∨ q = 5 by omega) with rfl | rfl | rfl | rfl | rfl | rfl
  all_goals exact ⟨⟨h.st, h.wp, (((((h.bl.iu (by have := h.st.len; omega)).iu (by have := h.st.len; omega)).iu (by have := h.st.len; omega)).iu (by have := h.st.len; omega)).iu (by have := h.st.len; omega))⟩, ⟨h.sc.1, h.sc.2.1, h.sc.2.2.1, h.sc.2.2.2.1, h.sc.2.2.2.2.1, rfl, h.sc.2.2.2.2.2.2⟩, h.rws, (h.kd.fr (fun a h1 h2 => by rw [iu_ne a (by omega), iu_ne a (by omega), iu_ne a (by omega), iu_ne a (by omega), iu_ne a (by omega)]) (fun a h1 h2 => by rw [iu_ne a (by omega), iu_ne a (by omega), iu_ne a (by omega), iu_ne a (by omega), iu_ne a (by omega)])), hp, h.tx, h.shf, h.mv, (h.pc.fr (fun a h1 h2 => by rw [iu_ne a (by omega), iu_ne a (by omega), iu_ne a (by omega), iu_ne a (by omega), iu_ne a (by omega)]) (fun a h1 => by rw [iu_ne a (by omega), iu_ne a (by omega), iu_ne a (by omega), iu_ne a (by omega), iu_ne a (by omega)]) (fun b hb => by rw [iu_ne (31 + 2 * b) (by omega), iu_ne (31 + 2 * b) (by omega), iu_ne (31 + 2 * b) (by omega), iu_ne (31 + 2 * b) (by omega), iu_ne (31 + 2 * b) (by omega)]) rfl rfl (Nat.le_succ c))⟩

theorem r_drop (h : Rel sh I J R c) (p : Int32) : dropRm (dropI I p) p = dropR I p ∧ Rel sh (dropIm (dropI I p) p) J R (c + 1) := by
  by_cases h1 : wI p 0 5 = 0
  · simp only [dropR, dropRm, dropI, dropIm, if_pos h1]
    exact ⟨trivial, h.mono⟩
  obtain ⟨e, l⟩ := ix_le (n := 5) h1 rfl (by decide)
  have hq : ix p < 6 := by omega
  have hi := emp_iff h.pots hq
  by_cases h2 : emp (I (18 + ix p) 0) = 0
  · have ei : dropI I p = iu (iu (iu I (18 + ix p) 0 (-1)) (18 + ix p) 1 0) 0 12 (I 0 12 + I (18 + ix p) 1) := by simp only [dropI, if_neg h1, if_pos h2, clearI]
    have er : dropR I p = I (18 + ix p) 1 := by simp only [dropR, if_neg h1, if_pos h2]
    have h54 : 0 ≤ I 53 (ix p) := Int32.not_lt.mp (hi.mp h2)
    have e55 : I 54 (ix p) = I (18 + ix p) 1 := by
      rcases (h.pots (ix p) hq).2 with r | r
      · rw [(h.pots (ix p) hq).1, r] at h54
        exact absurd h54 (by decide)
      · exact r.2.1
    have k54 : iu (iu (iu I (18 + ix p) 0 (-1)) (18 + ix p) 1 0) 0 12 (I 0 12 + I (18 + ix p) 1) 53 = I 53 := by rw [iu_ne 53 (by omega), iu_ne 53 (by omega), iu_ne 53 (by omega)]
    have k55 : iu (iu (iu I (18 + ix p) 0 (-1)) (18 + ix p) 1 0) 0 12 (I 0 12 + I (18 + ix p) 1) 54 = I 54 := by rw [iu_ne 54 (by omega), iu_ne 54 (by omega), iu_ne 54 (by omega)]
    have k48 : iu (iu (iu I (18 + ix p) 0 (-1)) (18 + ix p) 1 0) 0 12 (I 0 12 + I (18 + ix p) 1) 47 = I 47 := by rw [iu_ne 47 (by omega), iu_ne 47 (by omega), iu_ne 47 (by omega)]
    rw [ei, er]
    unfold dropRm dropIm
    rw [if_neg h1, if_neg h1, k54, k55, k48, if_pos h54, if_pos h54, e55, h.sc.2.2.2.2.2.1]
    exact ⟨rfl, drop_rel h hq _⟩
  · have h54 : ¬ 0 ≤ I 53 (ix p) := fun r => h2 (hi.mpr (Int32.not_lt.mpr r))
    simp only [dropR, dropRm, dropI, dropIm, if_neg h1, if_neg h2, if_neg h54]
    exact ⟨trivial, h.mono⟩
theorem mwF_first (f t : Nat → Int32) (x : Int32) : ∀ (n j : Nat) (d : Int32), j < n → (∀ i, i < j → wI x (f i) (t i) = 0) → ¬ wI x (f j) (t j) = 0 → mwF f t x n d = nI j
  | 0, j, d, hj, _, _ => absurd hj (Nat.not_lt_zero j)
  | n + 1, j, d, hj, h0, h1 => by
    unfold mwF
    by_cases e : j = n
    · subst e
      rw [if_neg h1]
      have : ∀ m, m ≤ j → mwF f t x m (nI j) = nI j := by
        intro m
        induction m with
        | zero => intro _; rfl
        | succ m ih =>
          intro hm
          unfold mwF
          rw [if_pos (h0 m (by omega))]
          exact ih (by omega)
      exact this j (Nat.le_refl j)
    · exact mwF_first f t x n j _ (by omega) h0 h1
theorem mwF_none (f t : Nat → Int32) (x : Int32) : ∀ (n : Nat) (d : Int32), (∀ i, i < n → wI x (f i) (t i) = 0) → mwF f t x n d = d
  | 0, _, _ => rfl
  | n + 1, d, h => by
    unfold mwF
    rw [if_pos (h n (Nat.lt_succ_self n))]
    exact mwF_none f t x n d (fun i hi => h i (by omega))
theorem fwF_eq (f t : Nat → Int32) (x : Int32) : ∀ (m k : Nat), (∀ i, i < k → wI x (f i) (t i) = 0) → fwF f t x m k = mwF f t x (m + k) (-1)
  | 0, k, h => by
    rw [Nat.zero_add, mwF_none f t x k (-1) h]
    rfl
  | m + 1, k, h => by
    unfold fwF
    by_cases h1 : wI x (f k) (t k) = 0
    · rw [if_pos h1, fwF_eq f t x m (k + 1) (fun i hi => by
        by_cases e : i = k
        · subst e; exact h1
        · exact h i (by omega))]
      congr 1
      omega
    · rw [if_neg h1]
      exact (mwF_first f t x (m + 1 + k) k (-1) (by omega) h h1).symm
theorem lay_rel (h : Rel sh I J R c) {q l : Nat} (hq : q < 6) (hl : l < 200) (x g nd cl : Int32) : Rel sh (iu (iu (iu (iu (iu (iu (iu (iu (iu (iu (iu (iu (iu (iu I 0 12 x) (18 + q) 0 (nI l)) (18 + q) 1 g) (18 + q) 2 0) (18 + q) 3 nd) (18 + q) 4 cl) 0 13 (nI (l + 1))) 47 5 x) 53 q (nI l)) 47 12 (nI (l + 1))) 54 q g) 55 q 0) 56 q nd) 57 q cl) J R (c + 1) := by
  have hp : RPots (iu (iu (iu (iu (iu (iu (iu (iu (iu (iu (iu (iu (iu (iu I 0 12 x) (18 + q) 0 (nI l)) (18 + q) 1 g) (18 + q) 2 0) (18 + q) 3 nd) (18 + q) 4 cl) 0 13 (nI (l + 1))) 47 5 x) 53 q (nI l)) 47 12 (nI (l + 1))) 54 q g) 55 q 0) 56 q nd) 57 q cl) := by
    intro k hk
    have q0 := h.pots k hk
    have n2 : ¬ 18 + k = 0 := by omega
    have n3 : ¬ 18 + k = 47 := by omega
    have n4 : ¬ 18 + k = 53 := by omega
    have n41 : ¬ 18 + k = 54 := by omega
    have n42 : ¬ 18 + k = 55 := by omega
    have n43 : ¬ 18 + k = 56 := by omega
    have n44 : ¬ 18 + k = 57 := by omega
    have n5 : ¬ 53 = 18 + q := by omega
    have n6 : ¬ 54 = 18 + q := by omega
    have n7 : ¬ 55 = 18 + q := by omega
    have n8 : ¬ 56 = 18 + q := by omega
    have n9 : ¬ 57 = 18 + q := by omega
    have na : ¬ 0 = 18 + q := by omega
    by_cases e : k = q
    · subst e
      refine ⟨by simp [iu_ap, n2, n3, n4, n41, n42, n43, n44, n5, n6, n7, n8, n9, na], Or.inr ⟨⟨l, hl, by simp [iu_ap, n2, n3, n4, n41, n42, n43, n44]⟩, by simp [iu_ap, n2, n3, n4, n41, n42, n43, n44], by simp [iu_ap, n2, n3, n4, n41, n42, n43, n44], by simp [iu_ap, n2, n3, n4, n41, n42, n43, n44], by simp [iu_ap, n2, n3, n4, n41, n42, n43, n44], 0, Nat.zero_le _, by simp [iu_ap, n2, n3, n4, n41, n42, n43, n44]; rfl⟩⟩
    · have n1 : ¬ 18 + k = 18 + q := by omega
      unfold RPt at q0 ⊢
      simpa [iu_ap, e, n1, n2, n3, n4, n41, n42, n43, n44, n5, n6, n7, n8, n9, na] using q0

  rcases (show q = 0 ∨ q = 1 ∨ q = 2 ∨ q = 3 ∨ q = 4 ∨ q = 5 by omega) with rfl | rfl | rfl | rfl | rfl | rfl
  all_goals exact ⟨⟨h.st, h.wp, ((((((((((((((h.bl.iu (by have := h.st.len; omega)).iu (by have := h.st.len; omega)).iu (by have := h.st.len; omega)).iu (by have := h.st.len; omega)).iu (by have := h.st.len; omega)).iu (by have := h.st.len; omega)).iu (by have := h.st.len; omega)).iu (by have := h.st.len; omega)).iu (by have := h.st.len; omega)).iu (by have := h.st.len; omega)).iu (by have := h.st.len; omega)).iu (by have := h.st.len; omega)).iu (by have := h.st.len; omega)).iu (by have := h.st.len; omega))⟩, ⟨h.sc.1, h.sc.2.1, h.sc.2.2.1, h.sc.2.2.2.1, h.sc.2.2.2.2.1, rfl, h.sc.2.2.2.2.2.2.1, ⟨l + 1, hl, rfl, rfl⟩⟩, h.rws, (h.kd.fr (fun a h1 h2 => by rw [iu_ne a (by omega), iu_ne a (by omega), iu_ne a (by omega), iu_ne a (by omega), iu_ne a (by omega), iu_ne a (by omega), iu_ne a (by omega), iu_ne a (by omega), iu_ne a (by omega), iu_ne a (by omega), iu_ne a (by omega), iu_ne a (by omega), iu_ne a (by omega), iu_ne a (by omega)]) (fun a h1 h2 => by rw [iu_ne a (by omega), iu_ne a (by omega), iu_ne a (by omega), iu_ne a (by omega), iu_ne a (by omega), iu_ne a (by omega), iu_ne a (by omega), iu_ne a (by omega), iu_ne a (by omega), iu_ne a (by omega), iu_ne a (by omega), iu_ne a (by omega), iu_ne a (by omega), iu_ne a (by omega)])), hp, h.tx, h.shf, h.mv, (h.pc.fr (fun a h1 h2 => by rw [iu_ne a (by omega), iu_ne a (by omega), iu_ne a (by omega), iu_ne a (by omega), iu_ne a (by omega), iu_ne a (by omega), iu_ne a (by omega), iu_ne a (by omega), iu_ne a (by omega), iu_ne a (by omega), iu_ne a (by omega), iu_ne a (by omega), iu_ne a (by omega), iu_ne a (by omega)]) (fun a h1 => by rw [iu_ne a (by omega), iu_ne a (by omega), iu_ne a (by omega), iu_ne a (by omega), iu_ne a (by omega), iu_ne a (by omega), iu_ne a (by omega), iu_ne a (by omega), iu_ne a (by omega), iu_ne a (by omega), iu_ne a (by omega), iu_ne a (by omega), iu_ne a (by omega), iu_ne a (by omega)]) (fun b hb => by rw [iu_ne (31 + 2 * b) (by omega), iu_ne (31 + 2 * b) (by omega), iu_ne (31 + 2 * b) (by omega), iu_ne (31 + 2 * b) (by omega), iu_ne (31 + 2 * b) (by omega), iu_ne (31 + 2 * b) (by omega), iu_ne (31 + 2 * b) (by omega), iu_ne (31 + 2 * b) (by omega), iu_ne (31 + 2 * b) (by omega), iu_ne (31 + 2 * b) (by omega), iu_ne (31 + 2 * b) (by omega), iu_ne (31 + 2 * b) (by omega), iu_ne (31 + 2 * b) (by omega), iu_ne (31 + 2 * b) (by omega)]) rfl rfl (Nat.le_succ c))⟩

theorem lay_ok (h : Rel sh I J R c) (p s a b : Int32) : layOkm I p s a b = layOk I p s a b := by
  obtain ⟨v, hv, hx, hy⟩ := id h.sc.2.2.2.2.2.2.2
  by_cases h1 : wI p 0 5 = 0
  · simp [layOk, layOkm, h1]
  obtain ⟨e, l⟩ := ix_le (n := 5) h1 rfl (by decide)
  have hi := emp_iff h.pots (k := ix p) (by omega)
  have he := end_iff h.sc.1
  have h200 : (I 47 12 = 200) ↔ (200 ≤ I 0 13) := by
    rw [hx, hy, show (200 : Int32) = nI 200 from rfl, nI_eq (by omega) (by decide), nI_leI (by decide) (by omega)]
    omega
  have hb : (I 47 5 < b) ↔ ¬ b ≤ I 0 12 := by rw [h.sc.2.2.2.2.2.1]; exact Int32.not_le.symm
  have hem : (0 ≤ I 53 (ix p)) ↔ emp (I (18 + ix p) 0) = 0 := by rw [hi]; exact Int32.not_lt.symm
  rw [Bool.eq_iff_iff]
  unfold layOk layOkm
  simp only [Bool.and_eq_true, Bool.not_eq_true', beq_eq_false_iff_ne, ne_eq, beq_iff_eq, decide_eq_false_iff_not, decide_eq_true_eq, h200, hb, hem, he, Classical.not_not]
  constructor
  · rintro ⟨g1, g2, g3, g4, g5, g6, g7, g8⟩
    exact ⟨⟨g1, g8, g3, g2⟩, g4, g5, g6, g7⟩
  · rintro ⟨⟨g1, g8, g3, g2⟩, g4, g5, g6, g7⟩
    exact ⟨g1, g2, g3, g4, g5, g6, g7, g8⟩
theorem r_lay (h : Rel sh I J R c) (p s a b : Int32) {n : Nat} (hn : I 14 2 = nI n) : (if layOkm (if layOk I p s a b then layI I n p s a b else I) p s a b then (if layOk I p s a b then layI I n p s a b else I) 47 12 else -1) = (if layOk I p s a b then I 0 13 + 1 - 1 else -1) ∧ Rel sh (if layOkm (if layOk I p s a b then layI I n p s a b else I) p s a b then layIm (if layOk I p s a b then layI I n p s a b else I) n p s a b else (if layOk I p s a b then layI I n p s a b else I)) J R (c + 1) := by
  by_cases h1 : layOk I p s a b = true
  · have hk := h1
    unfold layOk at hk
    simp only [Bool.and_eq_true, Bool.not_eq_true', beq_eq_false_iff_ne, ne_eq, beq_iff_eq, decide_eq_false_iff_not, decide_eq_true_eq] at hk
    obtain ⟨⟨g1, g2, g3, g4⟩, g5, g6, g7, g8⟩ := hk
    obtain ⟨e, l⟩ := ix_le (n := 5) g1 rfl (by decide)
    obtain ⟨v, hv, hx, hy⟩ := id h.sc.2.2.2.2.2.2.2
    have hv2 : v < 200 := by
      rcases Nat.lt_or_ge v 200 with r | r
      · exact r
      · exact absurd (by rw [hx]; exact nI_le (a := 200) r (by omega)) g3
    obtain ⟨z1, z2⟩ := lay_sum g5 g6 g7
    have eI : layI I n p s a b = iu (iu (iu (iu (iu (iu (iu I 0 12 (I 0 12 - b)) (18 + ix p) 0 (nI v)) (18 + ix p) 1 (s + a / 2 + b)) (18 + ix p) 2 0) (18 + ix p) 3 ((60 * s + 10 * a + 20 * b) / (s + a + b))) (18 + ix p) 4 (mwF (I 15) (I 16) (100 * a / (s + a)) n (-1))) 0 13 (nI (v + 1)) := by
      unfold layI fillI needF hundF
      rw [if_neg z1, if_neg z2, hx, nI_1, fwF_eq _ _ _ n 0 (fun i hi => absurd hi (Nat.not_lt_zero i)), Nat.add_zero]
    rw [if_pos h1, eI]
    generalize hg : (iu (iu (iu (iu (iu (iu (iu I 0 12 (I 0 12 - b)) (18 + ix p) 0 (nI v)) (18 + ix p) 1 (s + a / 2 + b)) (18 + ix p) 2 0) (18 + ix p) 3 ((60 * s + 10 * a + 20 * b) / (s + a + b))) (18 + ix p) 4 (mwF (I 15) (I 16) (100 * a / (s + a)) n (-1))) 0 13 (nI (v + 1))) = I1
    have ko : ∀ d, 24 ≤ d → I1 d = I d := fun d hd => by
      rw [← hg, iu_ne d (by omega), iu_ne d (by omega), iu_ne d (by omega), iu_ne d (by omega), iu_ne d (by omega), iu_ne d (by omega), iu_ne d (by omega)]
    have ho : layOkm I1 p s a b = true := by
      have := lay_ok h p s a b
      rw [h1] at this
      unfold layOkm at this ⊢
      rw [ko 53 (by decide), ko 47 (by decide)]
      exact this
    rw [if_pos ho, if_pos ho, if_pos h1, ko 47 (by decide), hx, hy]
    refine ⟨by rw [nI_1, nI_pred], ?_⟩
    have eM : layIm I1 n p s a b = iu (iu (iu (iu (iu (iu (iu I1 47 5 (I 0 12 - b)) 53 (ix p) (nI v)) 47 12 (nI (v + 1))) 54 (ix p) (s + a / 2 + b)) 55 (ix p) 0) 56 (ix p) ((60 * s + 10 * a + 20 * b) / (s + a + b))) 57 (ix p) (mwF (I 15) (I 16) (100 * a / (s + a)) n (-1)) := by
      unfold layIm layBm
      rw [ko 47 (by decide), ko 78 (by decide), ko 79 (by decide), h.tx.2.2.2.1, h.tx.2.2.2.2, hy, nI_1, h.sc.2.2.2.2.2.1]
    rw [eM, ← hg]
    exact lay_rel h (by omega) hv2 _ _ _ _
  · have h2 : ¬ layOkm I p s a b = true := by rw [lay_ok h]; exact h1
    rw [if_neg h1, if_neg h2, if_neg h2, if_neg h1]
    exact ⟨rfl, h.mono⟩
end RelN
