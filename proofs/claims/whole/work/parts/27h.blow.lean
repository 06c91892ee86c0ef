/-! ===== the relation kept: a piece is blown ===== -/
section BlB
variable {I : IM} {q P kd gj : Nat} {k g : Int32}
theorem blowB_o {a : Nat} (h1 : a ≠ q) (h2 : a ≠ 37) (h3 : a ≠ P) (h4 : a ≠ kd) : blowB I q P kd gj k g a = I a := by
  unfold blowB
  rw [iu_ne a h4, takeI_o h3, iu_ne a h2, newP_o h1]
theorem blowB_q (h2 : q ≠ 37) (h3 : q ≠ P) (h4 : q ≠ kd) : blowB I q P kd gj k g q = newP I q k g (I P 0) (I 0 11) (I kd 1) (I kd 6) q := by
  unfold blowB
  rw [iu_ne q h4, takeI_o h3, iu_ne q h2]
theorem blowB_37 (h1 : 37 ≠ q) (h3 : 37 ≠ P) (h4 : 37 ≠ kd) (j : Nat) : blowB I q P kd gj k g 37 j = if j = gj then I 37 gj - I kd 2 else I 37 j := by
  unfold blowB
  rw [iu_ne 37 h4, takeI_o h3, iu_ap, newP_o h1]
  simp
theorem blowB_kd (h1 : kd ≠ q) (h2 : kd ≠ 37) (h3 : kd ≠ P) (j : Nat) : blowB I q P kd gj k g kd j = if j = 7 then I kd 7 + 1 else I kd j := by
  unfold blowB
  rw [iu_ap, takeI_o h3, iu_ne kd h2, newP_o h1]
  simp
theorem blowB_P (h1 : P ≠ q) (h2 : P ≠ 37) (h4 : P ≠ kd) (j : Nat) : blowB I q P kd gj k g P j = if 0 < I P 1 - I kd 1 then (if j = 1 then I P 1 - I kd 1 else I P j) else (if j = 1 then 0 else if j = 0 then -1 else I P j) := by
  unfold blowB
  rw [iu_ne P h4]
  unfold takeI
  rw [iu_o h2, newP_ap h1]
  by_cases g0 : 0 < I P 1 - I kd 1
  · rw [if_pos g0, if_pos g0, iu_ap, iu_o h2, newP_ap h1]
    simp
  · rw [if_neg g0, if_neg g0]
    unfold clearI
    rw [iu_ap, iu_ap, iu_ap, iu_o h2, newP_ap h1]
    by_cases j1 : j = 1
    · simp [j1]
    · simp [j1]
end BlB
section BlM
variable {I : IM} {n p gj kk : Nat} {g k y : Int32}
theorem bF_o {a : Nat} (h : a ≠ 47 ∧ a ≠ 53 ∧ a ≠ 54 ∧ a ≠ 65 ∧ a ≠ 66 ∧ ¬ (67 ≤ a ∧ a ≤ 76)) : blowFm I n p gj kk g k y a = I a := by
  have e : blowCm I n p gj kk g k y a = I a := by
    unfold blowCm blowBm
    split
    · rw [iu_ne a (by omega), iu_ne a (by omega), iu_ne a (by omega), iu_ne a (by omega), iu_ne a (by omega), iu_ne a (by omega), iu_ne a (by omega), iu_ne a (by omega), iu_ne a (by omega), iu_ne a (by omega), iu_ne a (by omega), iu_ne a (by omega), iu_ne a (by omega)]
    · rw [iu_ne a (by omega), iu_ne a (by omega), iu_ne a (by omega), iu_ne a (by omega), iu_ne a (by omega), iu_ne a (by omega), iu_ne a (by omega), iu_ne a (by omega), iu_ne a (by omega), iu_ne a (by omega), iu_ne a (by omega), iu_ne a (by omega), iu_ne a (by omega)]
  unfold blowFm
  split
  · rw [iu_ne a (by omega), iu_ne a (by omega), e]
  · rw [iu_ne a (by omega), e]
theorem bF_C {a j : Nat} (h48 : a = 47 → j ≠ 27) (h54 : a ≠ 53) : blowFm I n p gj kk g k y a j = blowCm I n p gj kk g k y a j := by
  unfold blowFm
  split
  · rw [iu_o h54, iu_ap, if_neg (fun z => h48 z.1 z.2)]
  · rw [iu_ap, if_neg (fun z => h48 z.1 z.2)]
theorem bF_48 : blowFm I n p gj kk g k y 47 27 = I 47 27 + 1 := by
  unfold blowFm
  split
  · rw [iu_o (by decide), iu_same]
  · rw [iu_same]
theorem bF_54 (j : Nat) : blowFm I n p gj kk g k y 53 j = if j = p ∧ I 54 p - I 59 kk = 0 then -1 else I 53 j := by
  have e : blowCm I n p gj kk g k y 53 = I 53 := by
    unfold blowCm blowBm
    split <;> rfl
  unfold blowFm
  by_cases h : I 54 p - I 59 kk = 0
  · rw [if_pos h, iu_ap, iu_o (by decide), e]
    simp [h]
  · rw [if_neg h, iu_o (by decide), e, if_neg (fun z => h z.2)]
theorem bC_55 (j : Nat) : blowCm I n p gj kk g k y 54 j = if j = p then I 54 p - I 59 kk else I 54 j := by
  unfold blowCm blowBm
  split <;> simp [iu_ap]
theorem bC_67 (j : Nat) : blowCm I n p gj kk g k y 66 j = if j = gj then I 66 gj - I 60 kk else I 66 j := by
  unfold blowCm blowBm
  split <;> simp [iu_ap]
theorem bC_66 (j : Nat) : blowCm I n p gj kk g k y 65 j = if j = kk then I 65 kk + 1 else I 65 j := by
  unfold blowCm blowBm
  split <;> simp [iu_ap]
theorem bC_k {a j : Nat} (h1 : 67 ≤ a) (h2 : a ≤ 75) (hj : j ≠ n) : blowCm I n p gj kk g k y a j = I a j := by
  have e : blowBm I n p gj kk g k a j = I a j := by
    unfold blowBm
    rw [iu_k hj, iu_k hj, iu_k hj, iu_k hj, iu_k hj, iu_k hj, iu_k hj, iu_o (by omega), iu_o (by omega), iu_o (by omega)]
  unfold blowCm
  split
  · rw [iu_o (by omega), iu_k hj, iu_k hj, e]
  · rw [iu_o (by omega), iu_k hj, iu_k hj, e]
theorem bC_n : blowCm I n p gj kk g k y 67 n = k ∧ blowCm I n p gj kk g k y 68 n = g ∧ blowCm I n p gj kk g k y 69 n = I 53 p ∧ blowCm I n p gj kk g k y 70 n = I 47 0 ∧ blowCm I n p gj kk g k y 75 n = I 59 kk ∧ blowCm I n p gj kk g k y 74 n = I 64 kk ∧ blowCm I n p gj kk g k y 73 n = 0 := by
  unfold blowCm blowBm
  split <;> simp [iu_ap]
theorem bC_Y (h : brk (I 63 kk) (I 65 kk + 1) = 0) : blowCm I n p gj kk g k y 71 n = 0 ∧ blowCm I n p gj kk g k y 72 n = y ∧ (∀ j, blowCm I n p gj kk g k y 76 j = if j = ix y then I 76 (ix y) + 1 else I 76 j) ∧ ∀ j, blowCm I n p gj kk g k y 47 j = I 47 j := by
  unfold blowCm
  rw [if_pos h]
  unfold blowBm
  simp [iu_ap]
theorem bC_X (h : ¬ brk (I 63 kk) (I 65 kk + 1) = 0) : blowCm I n p gj kk g k y 71 n = 2 ∧ blowCm I n p gj kk g k y 72 n = -1 ∧ (∀ j, blowCm I n p gj kk g k y 76 j = I 76 j) ∧ ∀ j, blowCm I n p gj kk g k y 47 j = if j = 5 then I 47 5 + I 59 kk else I 47 j := by
  unfold blowCm
  rw [if_neg h]
  unfold blowBm
  simp [iu_ap]
end BlM
def paN (pa : Nat → Nat) (n q : Nat) : Nat → Nat := fun k => if k = n then q else pa k
section BlC
variable {sh : List Sh} {I I2 : IM} {J : JM} {R R1 : RM} {c n p kk b : Nat} {pa : Nat → Nat}
theorem pl_ext (hI : ∀ k, k < n → I2 71 k = I 71 k ∧ I2 72 k = I 72 k) (b' q : Nat) : pl I2 (paN pa n q) (n + 1) b' = pl I pa n b' ++ (if inB I2 b' n = true then [q] else []) := by
  unfold pl
  rw [List.range_succ, List.filter_append, List.map_append]
  congr 1
  · have e : (List.range n).filter (inB I2 b') = (List.range n).filter (inB I b') := by
      apply List.filter_congr
      intro k hk
      have := hI k (List.mem_range.mp hk)
      unfold inB
      rw [this.1, this.2]
    rw [e]
    apply List.map_congr_left
    intro k hk
    have := List.mem_range.mp (List.mem_filter.mp hk).1
    unfold paN
    rw [if_neg (by omega)]
  · rw [List.filter_cons]
    split
    · simp [paN]
    · rfl
theorem blow_core (h : Rel sh I J R c) (hnc : n ≤ c) (hp : RPc sh I R n pa) (hp6 : p < 6) (hk5 : kk < 5) (hb : b < 3) (hst : St (sh ++ [.inl 6]) R1)
    (o : ∀ a, a ≠ 0 → a ≠ 37 → a ≠ 18 + p → a ≠ 25 + kk → a ≠ 31 + 2 * b → a ≠ 47 → a ≠ 53 → a ≠ 54 → a ≠ 65 → a ≠ 66 → ¬ (67 ≤ a ∧ a ≤ 76) → a ≠ sh.length → I2 a = I a)
    (z0 : ∀ j, j ≠ 12 → j ≠ 14 → I2 0 j = I 0 j) (z14 : I2 0 14 = nI (n + 1)) (z37 : I2 66 = I2 37)
    (zk : ∀ f, f < 7 → I2 (25 + kk) f = I (25 + kk) f) (zk7 : I2 65 kk = I2 (25 + kk) 7) (zk66 : ∀ j, j ≠ kk → I2 65 j = I 65 j)
    (zp : RPt I2 p) (zp54 : ∀ j, j ≠ p → I2 53 j = I 53 j ∧ I2 54 j = I 54 j)
    (z48 : ∀ j, j ≠ 5 → j ≠ 27 → I2 47 j = I 47 j) (z4827 : I2 47 27 = nI (n + 1)) (zh : I2 47 5 = I2 0 12)
    (zr : ∀ a j, 67 ≤ a → a ≤ 75 → j ≠ n → I2 a j = I a j) (zq : PF I2 sh.length n)
    (z38 : R1 38 n = some sh.length) (z38' : ∀ k, k ≠ n → R1 38 k = R 38 k) (zR : ∀ a, a ≠ 38 → a ≠ 32 + 2 * b → R1 a = R a)
    (hbay : ∀ b', b' < 3 → BayOK (sh ++ [.inl 6]) I2 R1 (31 + 2 * b') (32 + 2 * b') (pl I2 (paN pa n sh.length) (n + 1) b') ∧ I2 76 b' = I2 (31 + 2 * b') 1)
    (hin : I2 71 n = 0 → ∃ b', b' < 3 ∧ I2 72 n = nI b') : Rel (sh ++ [.inl 6]) I2 J R1 (c + 1) := by
  have hl := h.st.len
  have go : ∀ a, a < 90 → a ≠ 0 → a ≠ 37 → a ≠ 18 + p → a ≠ 25 + kk → a ≠ 31 + 2 * b → a ≠ 47 → a ≠ 53 → a ≠ 54 → a ≠ 65 → a ≠ 66 → ¬ (67 ≤ a ∧ a ≤ 76) → I2 a = I a := fun a k0 k1 k2 k3 k4 k5 k6 k7 k8 k9 ka kb => o a k1 k2 k3 k4 k5 k6 k7 k8 k9 ka kb (by omega)
  have gp : ∀ k, k < n → I2 (pa k) = I (pa k) := fun k hk => by
    obtain ⟨_, k2, k3, _⟩ := hp.1 k hk
    have := sh_lt k2
    exact o _ (by omega) (by omega) (by omega) (by omega) (by omega) (by omega) (by omega) (by omega) (by omega) (by omega) (by omega) (by omega)
  refine ⟨⟨hst, ?_, ?_⟩, ?_, ?_, fun k hk => ?_, fun k hk => ?_, ?_, ?_, ?_, n + 1, paN pa n sh.length, by omega, z14, z4827, fun k hk => ?_, fun j k hj hk e => ?_, hbay, fun k hk hz => ?_⟩
  · have := h.wp
    unfold WP at this ⊢
    rw [zR 39 (by decide) (by omega)]
    rcases this with q | ⟨W, N, g1, g2, g3, g4, g5, g6, g7⟩
    · exact Or.inl q
    · exact Or.inr ⟨W, N, g1, g2, g3, g4, g5, sh_app g6, sh_app g7⟩
  · intro a ha
    rw [List.length_append] at ha
    have ha' : sh.length + 1 ≤ a := ha
    rw [o a (by omega) (by omega) (by omega) (by omega) (by omega) (by omega) (by omega) (by omega) (by omega) (by omega) (by omega) (by omega), zR a (by omega) (by omega)]
    exact h.bl a (by omega)
  · have e1 : I2 1 = I 1 := go 1 (by decide) (by decide) (by decide) (by omega) (by omega) (by omega) (by decide) (by decide) (by decide) (by decide) (by decide) (by decide)
    have e4 : I2 4 = I 4 := go 4 (by decide) (by decide) (by decide) (by omega) (by omega) (by omega) (by decide) (by decide) (by decide) (by decide) (by decide) (by decide)
    unfold RScal
    rw [z0 11 (by decide) (by decide), z0 13 (by decide) (by decide), z48 0 (by decide) (by decide), z48 1 (by decide) (by decide), z48 2 (by decide) (by decide), z48 3 (by decide) (by decide), z48 4 (by decide) (by decide), z48 8 (by decide) (by decide), z48 12 (by decide) (by decide), e1, e4]
    exact ⟨h.sc.1, h.sc.2.1, h.sc.2.2.1, h.sc.2.2.2.1, h.sc.2.2.2.2.1, zh, h.sc.2.2.2.2.2.2⟩
  · have e : ∀ a, (2 ≤ a ∧ a ≤ 7) ∨ (48 ≤ a ∧ a ≤ 52) → I2 a = I a := fun a ha => go a (by omega) (by omega) (by omega) (by omega) (by omega) (by omega) (by omega) (by omega) (by omega) (by omega) (by omega) (by omega)
    unfold RRows
    rw [e 48 (by decide), e 2 (by decide), e 49 (by decide), e 3 (by decide), e 50 (by decide), e 5 (by decide), e 51 (by decide), e 6 (by decide), e 52 (by decide), e 7 (by decide)]
    exact ⟨h.rws.1, h.rws.2.1, h.rws.2.2.1, h.rws.2.2.2.1, h.rws.2.2.2.2.1, z37⟩
  · have q := h.kd k hk
    have er : ∀ f, f < 7 → I2 (58 + f) = I (58 + f) := fun f hf => go _ (by omega) (by omega) (by omega) (by omega) (by omega) (by omega) (by omega) (by omega) (by omega) (by omega) (by omega) (by omega)
    by_cases e : k = kk
    · subst e
      refine ⟨fun f hf => ?_, ?_⟩
      · by_cases f7 : f = 7
        · subst f7; exact zk7
        · rw [er f (by omega), zk f (by omega)]; exact q.1 f hf
      · rw [zk 0 (by decide), zk 1 (by decide), zk 2 (by decide), zk 3 (by decide)]; exact q.2
    · have ec : I2 (25 + k) = I (25 + k) := go _ (by omega) (by omega) (by omega) (by omega) (by omega) (by omega) (by omega) (by omega) (by omega) (by omega) (by omega) (by omega)
      rw [ec]
      refine ⟨fun f hf => ?_, q.2⟩
      by_cases f7 : f = 7
      · subst f7
        show I2 65 k = _
        rw [zk66 k e]; exact q.1 7 hf
      · rw [er f (by omega)]; exact q.1 f hf
  · by_cases e : k = p
    · subst e; exact zp
    · have q := h.pots k hk
      have ec : I2 (18 + k) = I (18 + k) := go _ (by omega) (by omega) (by omega) (by omega) (by omega) (by omega) (by omega) (by omega) (by omega) (by omega) (by omega) (by omega)
      have er : ∀ a, a = 55 ∨ a = 56 ∨ a = 57 → I2 a = I a := fun a ha => go _ (by omega) (by omega) (by omega) (by omega) (by omega) (by omega) (by omega) (by omega) (by omega) (by omega) (by omega) (by omega)
      unfold RPt at q ⊢
      rw [ec, (zp54 k e).1, (zp54 k e).2, er 55 (by decide), er 56 (by decide), er 57 (by decide), z0 11 (by decide) (by decide)]
      exact q
  · have e : ∀ a, a = 8 ∨ a = 9 ∨ (14 ≤ a ∧ a ≤ 16) ∨ (77 ≤ a ∧ a ≤ 79) → I2 a = I a := fun a ha => go a (by omega) (by omega) (by omega) (by omega) (by omega) (by omega) (by omega) (by omega) (by omega) (by omega) (by omega) (by omega)
    exact h.tx.fr (by rw [e 8 (by decide)]) (z48 39 (by decide) (by decide)) (by rw [e 14 (by decide)]) (z48 42 (by decide) (by decide)) (fun a ha => e a (by omega))
  · exact h.shf.fr (fun a ha => go a (by omega) (by omega) (by omega) (by omega) (by omega) (by omega) (by omega) (by omega) (by omega) (by omega) (by omega) (by omega))
  · have e : ∀ a, (42 ≤ a ∧ a ≤ 46) ∨ (86 ≤ a ∧ a ≤ 89) → I2 a = I a := fun a ha => go a (by omega) (by omega) (by omega) (by omega) (by omega) (by omega) (by omega) (by omega) (by omega) (by omega) (by omega) (by omega)
    exact h.mv.fr (by rw [e 42 (by decide)]) (z48 56 (by decide) (by decide)) (fun a ha => e a (by omega))
  · by_cases e : k = n
    · subst e
      have ep : paN pa k sh.length k = sh.length := if_pos rfl
      rw [ep]
      exact ⟨z38, by simp, by omega, zq⟩
    · have ep : paN pa n sh.length k = pa k := if_neg e
      obtain ⟨k1, k2, k3, k4⟩ := hp.1 k (by omega)
      rw [ep]
      refine ⟨by rw [z38' k e]; exact k1, sh_app k2, k3, ?_⟩
      unfold PF at k4 ⊢
      rw [gp k (by omega), zr 67 k (by decide) (by decide) e, zr 68 k (by decide) (by decide) e, zr 69 k (by decide) (by decide) e, zr 70 k (by decide) (by decide) e, zr 71 k (by decide) (by decide) e, zr 72 k (by decide) (by decide) e, zr 73 k (by decide) (by decide) e, zr 74 k (by decide) (by decide) e, zr 75 k (by decide) (by decide) e]
      exact k4
  · have lt : ∀ i, i < n → pa i < sh.length := fun i hi => sh_lt (hp.1 i hi).2.1
    unfold paN at e
    by_cases ej : j = n
    · by_cases ek : k = n
      · omega
      · rw [if_pos ej, if_neg ek] at e
        have := lt k (by omega)
        omega
    · by_cases ek : k = n
      · rw [if_neg ej, if_pos ek] at e
        have := lt j (by omega)
        omega
      · rw [if_neg ej, if_neg ek] at e
        exact hp.2.1 j k (by omega) (by omega) e
  · by_cases e : k = n
    · subst e; exact hin hz
    · rw [zr 71 k (by decide) (by decide) e] at hz
      rw [zr 72 k (by decide) (by decide) e]
      exact hp.2.2.2 k (by omega) hz
end BlC
