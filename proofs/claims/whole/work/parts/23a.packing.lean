/-! ===== packings: the worth of a shift ===== -/
def pS (f x : Nat → Nat) : Nat → Nat
  | 0 => 0
  | n + 1 => pS f x n + x n * f n
def pad (x y : Nat → Nat) : Nat → Nat := fun d => x d + y d
def psc (t c : Nat) : Nat → Nat := fun d => if d = c then t else 0
def pz : Nat → Nat := fun _ => 0
theorem pS_ad (f x y : Nat → Nat) : ∀ n, pS f (pad x y) n = pS f x n + pS f y n
  | 0 => rfl
  | n + 1 => by
    show pS f (pad x y) n + (x n + y n) * f n = (pS f x n + x n * f n) + (pS f y n + y n * f n)
    rw [pS_ad f x y n, Nat.add_mul]
    omega
theorem pS_sc (f : Nat → Nat) (t c : Nat) : ∀ n, pS f (psc t c) n = if c < n then t * f c else 0
  | 0 => rfl
  | n + 1 => by
    show pS f (psc t c) n + (if n = c then t else 0) * f n = _
    rw [pS_sc f t c n]
    by_cases h : n = c
    · subst h
      rw [if_neg (Nat.lt_irrefl _), if_pos rfl, if_pos (Nat.lt_succ_self _), Nat.zero_add]
    · rw [if_neg h, Nat.zero_mul, Nat.add_zero]
      by_cases h2 : c < n
      · rw [if_pos h2, if_pos (by omega)]
      · rw [if_neg h2, if_neg (by omega)]
theorem pS_z (f : Nat → Nat) : ∀ n, pS f pz n = 0
  | 0 => rfl
  | n + 1 => by
    show pS f pz n + 0 * f n = 0
    rw [pS_z f n, Nat.zero_mul]
theorem pS_ge (f x : Nat → Nat) (c : Nat) : ∀ n, c < n → x c * f c ≤ pS f x n
  | 0, h => absurd h (Nat.not_lt_zero _)
  | n + 1, h => by
    show _ ≤ pS f x n + x n * f n
    by_cases h2 : c = n
    · subst h2; exact Nat.le_add_left _ _
    · exact Nat.le_trans (pS_ge f x c n (by omega)) (Nat.le_add_right _ _)
/-- x is 0 but where it is said otherwise: x = y + t at c -/
theorem p_take {x : Nat → Nat} {t c : Nat} (h : t ≤ x c) : x = pad (fun d => if d = c then x c - t else x d) (psc t c) := by
  funext d
  simp only [pad, psc]
  split
  · rename_i e; subst e; omega
  · rfl
abbrev Kd0 : Type := (Nat → Bool) × (Nat → Nat) × (Nat → Nat) × (Nat → Nat)
def Kd : Type := { K : Kd0 // (∀ c, K.1 c = true → 1 ≤ K.2.1 c ∧ K.2.1 c ≤ 50) ∧ (∀ c, K.1 c = true → 1 ≤ K.2.2.1 c ∧ K.2.2.1 c ≤ 60) ∧ ∀ c, K.1 c = true → 1 ≤ K.2.2.2 c ∧ K.2.2.2 c ≤ 10000 }
def Kd.u (K : Kd) (c : Nat) : Bool := K.1.1 c
def Kd.w (K : Kd) (c : Nat) : Nat := K.1.2.1 c
def Kd.mi (K : Kd) (c : Nat) : Nat := K.1.2.2.1 c
def Kd.p (K : Kd) (c : Nat) : Nat := K.1.2.2.2 c
theorem Kd.hw (K : Kd) : ∀ c, K.u c = true → 1 ≤ K.w c ∧ K.w c ≤ 50 := K.2.1
theorem Kd.hm (K : Kd) : ∀ c, K.u c = true → 1 ≤ K.mi c ∧ K.mi c ≤ 60 := K.2.2.1
theorem Kd.hp (K : Kd) : ∀ c, K.u c = true → 1 ≤ K.p c ∧ K.p c ≤ 10000 := K.2.2.2
def Kd.v (K : Kd) (c : Nat) : Nat := 1024 * K.p c - K.mi c
theorem Kd.v_pos (K : Kd) {c : Nat} (h : K.u c = true) : 1 ≤ K.v c ∧ K.v c ≤ 10240000 ∧ K.v c + K.mi c = 1024 * K.p c := by
  have := K.hm c h
  have := K.hp c h
  unfold Kd.v
  omega
def Pk (K : Kd) (k i j : Nat) (x : Nat → Nat) : Prop := (∀ c, x c ≠ 0 → k ≤ c ∧ c < 5 ∧ K.u c = true) ∧ pS K.mi x 5 ≤ i ∧ pS K.w x 5 ≤ j
def Lx (K : Kd) (k i j : Nat) (x : Nat → Nat) : Prop := Pk K k i j x ∧ (∀ y, Pk K k i j y → pS K.v y 5 ≤ pS K.v x 5) ∧ ∀ y, Pk K k i j y → pS K.v y 5 = pS K.v x 5 → ∀ c, (∀ d, d < c → y d = x d) → y c ≤ x c
theorem Lx.uniq {K : Kd} {k i j : Nat} {x y : Nat → Nat} (hx : Lx K k i j x) (hy : Lx K k i j y) : x = y := by
  have e : pS K.v x 5 = pS K.v y 5 := Nat.le_antisymm (hy.2.1 x hx.1) (hx.2.1 y hy.1)
  have key : ∀ n c, c < n → x c = y c := by
    intro n
    induction n with
    | zero => intro c hc; exact absurd hc (Nat.not_lt_zero _)
    | succ n ih =>
      intro c hc
      by_cases h : c < n
      · exact ih c h
      · obtain rfl : c = n := by omega
        exact Nat.le_antisymm (hy.2.2 x hx.1 e c ih) (hx.2.2 y hy.1 e.symm c (fun d hd => (ih d hd).symm))
  funext c
  exact key (c + 1) c (Nat.lt_succ_self _)
theorem Lx.same {K : Kd} {k i j : Nat} {x y : Nat → Nat} (hx : Lx K k i j x) (hy : Lx K k i j y) : pS K.v x 5 = pS K.v y 5 := by rw [hx.uniq hy]
/-- a packing with a piece of c has the rest in what is left -/
theorem Pk.less {K : Kd} {k i j t c : Nat} {x : Nat → Nat} (h : Pk K k i j x) (hc : t ≤ x c) (h0 : x c ≠ 0) : t * K.mi c ≤ i ∧ t * K.w c ≤ j ∧ Pk K k (i - t * K.mi c) (j - t * K.w c) (fun d => if d = c then x c - t else x d) ∧ pS K.v x 5 = pS K.v (fun d => if d = c then x c - t else x d) 5 + t * K.v c := by
  obtain ⟨h1, h2, h3⟩ := h
  obtain ⟨q1, q2, q3⟩ := h1 c h0
  have e := p_take hc
  have em : pS K.mi x 5 = pS K.mi (fun d => if d = c then x c - t else x d) 5 + t * K.mi c := by
    conv => lhs; rw [e]
    rw [pS_ad, pS_sc, if_pos q2]
  have ew : pS K.w x 5 = pS K.w (fun d => if d = c then x c - t else x d) 5 + t * K.w c := by
    conv => lhs; rw [e]
    rw [pS_ad, pS_sc, if_pos q2]
  have ev : pS K.v x 5 = pS K.v (fun d => if d = c then x c - t else x d) 5 + t * K.v c := by
    conv => lhs; rw [e]
    rw [pS_ad, pS_sc, if_pos q2]
  refine ⟨by omega, by omega, ⟨fun d hd => ?_, by omega, by omega⟩, ev⟩
  by_cases hdc : d = c
  · subst hdc; exact ⟨q1, q2, q3⟩
  · exact h1 d (by simpa [hdc] using hd)
theorem Pk.more {K : Kd} {k i j t c : Nat} {y : Nat → Nat} (h : Pk K k (i - t * K.mi c) (j - t * K.w c) y) (hk : k ≤ c) (hc : c < 5) (hu : K.u c = true) (hi : t * K.mi c ≤ i) (hj : t * K.w c ≤ j) : Pk K k i j (pad y (psc t c)) := by
  obtain ⟨h1, h2, h3⟩ := h
  refine ⟨fun d hd => ?_, ?_, ?_⟩
  · by_cases hdc : d = c
    · subst hdc; exact ⟨hk, hc, hu⟩
    · exact h1 d (by simpa [pad, psc, hdc] using hd)
  · rw [pS_ad, pS_sc, if_pos hc]; omega
  · rw [pS_ad, pS_sc, if_pos hc]; omega
theorem Pk.none {K : Kd} {k i j : Nat} : Pk K k i j pz := ⟨fun c h => absurd rfl h, by rw [pS_z]; exact Nat.zero_le _, by rw [pS_z]; exact Nat.zero_le _⟩
theorem p_zero {K : Kd} {k i j : Nat} {x : Nat → Nat} (h : ¬ x = pz) : ∃ c, x c ≠ 0 := by
  rcases Classical.em (∃ c, x c ≠ 0) with q | q
  · exact q
  · refine absurd (funext fun c => ?_) h
    rcases Nat.eq_zero_or_pos (x c) with r | r
    · exact r
    · exact absurd ⟨c, by omega⟩ q
/-- does a piece of c fit -/
def Fit (K : Kd) (i j c : Nat) : Prop := K.mi c ≤ i ∧ K.w c ≤ j
/-- the class's fold over the kinds that may be used: q lists them -/
def FInv (K : Kd) (q : Nat → Nat) (i j t b : Nat) (x : Nat → Nat) : Prop :=
  (b = 0 ∧ x = pz ∧ ∀ s, s < t → ¬ Fit K i j (q s)) ∨
  (∃ s0 y, s0 < t ∧ Fit K i j (q s0) ∧ Lx K 0 (i - K.mi (q s0)) (j - K.w (q s0)) y ∧ x = pad y (psc 1 (q s0)) ∧ b = pS K.v y 5 + K.v (q s0) ∧ (∀ s, s < s0 → Fit K i j (q s) → ∀ y', Lx K 0 (i - K.mi (q s)) (j - K.w (q s)) y' → pS K.v y' 5 + K.v (q s) < b) ∧ (∀ s, s < t → Fit K i j (q s) → ∀ y', Lx K 0 (i - K.mi (q s)) (j - K.w (q s)) y' → pS K.v y' 5 + K.v (q s) ≤ b))
def QL (K : Kd) (q : Nat → Nat) (U : Nat) : Prop := (∀ s, s < U → q s < 5 ∧ K.u (q s) = true) ∧ (∀ s t, s < t → t < U → q s < q t) ∧ ∀ c, c < 5 → K.u c = true → ∃ s, s < U ∧ q s = c
theorem QL.us {K : Kd} {q : Nat → Nat} {U : Nat} (h : QL K q U) : ∀ s, s < U → q s < 5 ∧ K.u (q s) = true := h.1
theorem QL.mo {K : Kd} {q : Nat → Nat} {U : Nat} (h : QL K q U) : ∀ s t, s < t → t < U → q s < q t := h.2.1
theorem QL.al {K : Kd} {q : Nat → Nat} {U : Nat} (h : QL K q U) : ∀ c, c < 5 → K.u c = true → ∃ s, s < U ∧ q s = c := h.2.2
theorem FInv.skip {K : Kd} {q : Nat → Nat} {i j t b : Nat} {x : Nat → Nat} (h : FInv K q i j t b x) (hn : ¬ Fit K i j (q t)) : FInv K q i j (t + 1) b x := by
  rcases h with ⟨h1, h2, h3⟩ | ⟨s0, y, h1, h2, h3, h4, h5, h6, h7⟩
  · refine Or.inl ⟨h1, h2, fun s hs hf => ?_⟩
    by_cases e : s = t
    · subst e; exact hn hf
    · exact h3 s (by omega) hf
  · refine Or.inr ⟨s0, y, by omega, h2, h3, h4, h5, h6, fun s hs hf => ?_⟩
    by_cases e : s = t
    · subst e; exact absurd hf hn
    · exact h7 s (by omega) hf
theorem FInv.take {K : Kd} {q : Nat → Nat} {U i j t b : Nat} {x y : Nat → Nat} (hq : QL K q U) (ht : t < U) (h : FInv K q i j t b x) (hf : Fit K i j (q t)) (hy : Lx K 0 (i - K.mi (q t)) (j - K.w (q t)) y) (hb : b < pS K.v y 5 + K.v (q t)) : FInv K q i j (t + 1) (pS K.v y 5 + K.v (q t)) (pad y (psc 1 (q t))) := by
  rcases h with ⟨h1, h2, h3⟩ | ⟨s0, y0, h1, h2, h3, h4, h5, h6, h7⟩
  · refine Or.inr ⟨t, y, by omega, hf, hy, rfl, rfl, fun s hs hf2 => absurd hf2 (h3 s hs), fun s hs hf2 y' hy' => ?_⟩
    by_cases e : s = t
    · subst e; rw [hy'.same hy]; exact Nat.le_refl _
    · exact absurd hf2 (h3 s (by omega))
  · refine Or.inr ⟨t, y, by omega, hf, hy, rfl, rfl, fun s hs hf2 y' hy' => ?_, fun s hs hf2 y' hy' => ?_⟩
    · exact Nat.lt_of_le_of_lt (h7 s hs hf2 y' hy') hb
    · by_cases e : s = t
      · subst e; rw [hy'.same hy]; exact Nat.le_refl _
      · exact Nat.le_of_lt (Nat.lt_of_le_of_lt (h7 s (by omega) hf2 y' hy') hb)
theorem FInv.leave {K : Kd} {q : Nat → Nat} {U i j t b : Nat} {x y : Nat → Nat} (hq : QL K q U) (ht : t < U) (h : FInv K q i j t b x) (hf : Fit K i j (q t)) (hy : Lx K 0 (i - K.mi (q t)) (j - K.w (q t)) y) (hb : ¬ b < pS K.v y 5 + K.v (q t)) : FInv K q i j (t + 1) b x := by
  have hv := (K.v_pos (hq.us t ht).2).1
  rcases h with ⟨h1, h2, h3⟩ | ⟨s0, y0, h1, h2, h3, h4, h5, h6, h7⟩
  · omega
  · refine Or.inr ⟨s0, y0, by omega, h2, h3, h4, h5, h6, fun s hs hf2 y' hy' => ?_⟩
    by_cases e : s = t
    · subst e; rw [hy'.same hy]; omega
    · exact h7 s (by omega) hf2 y' hy'
theorem FInv.val {K : Kd} {q : Nat → Nat} {i j t b : Nat} {x : Nat → Nat} (hq : ∀ s, s < t → q s < 5) (h : FInv K q i j t b x) : b = pS K.v x 5 := by
  rcases h with ⟨h1, h2, h3⟩ | ⟨s0, y, h1, h2, h3, h4, h5, h6, h7⟩
  · rw [h1, h2, pS_z]
  · rw [h5, h4, pS_ad, pS_sc, if_pos (hq s0 h1), Nat.one_mul]
/-- where every cell that is reached is known, the fold gives the cell -/
theorem FInv.done {K : Kd} {q : Nat → Nat} {U i j b : Nat} {x : Nat → Nat} (hq : QL K q U) (h : FInv K q i j U b x) (hc : ∀ s, s < U → Fit K i j (q s) → ∃ y, Lx K 0 (i - K.mi (q s)) (j - K.w (q s)) y) : Lx K 0 i j x := by
  have one : ∀ z c, Pk K 0 i j z → z c ≠ 0 → ∃ s, s < U ∧ q s = c ∧ Fit K i j c ∧ Pk K 0 (i - K.mi c) (j - K.w c) (fun d => if d = c then z c - 1 else z d) ∧ pS K.v z 5 = pS K.v (fun d => if d = c then z c - 1 else z d) 5 + K.v c := by
    intro z c hz h0
    have hl := hz.less (t := 1) (c := c) (by omega) h0
    rw [Nat.one_mul, Nat.one_mul, Nat.one_mul] at hl
    obtain ⟨q1, q2, q3⟩ := hz.1 c h0
    obtain ⟨s, hs, e⟩ := hq.al c q2 q3
    exact ⟨s, hs, e, ⟨hl.1, hl.2.1⟩, hl.2.2.1, hl.2.2.2⟩
  rcases h with ⟨h1, h2, h3⟩ | ⟨s0, y, h1, h2, h3, h4, h5, h6, h7⟩
  · have z0 : ∀ z, Pk K 0 i j z → z = pz := by
      intro z hz
      rcases Classical.em (z = pz) with r | r
      · exact r
      · obtain ⟨c, h0⟩ := p_zero (K := K) (k := 0) (i := i) (j := j) r
        obtain ⟨s, hs, e, hf, _⟩ := one z c hz h0
        subst e
        exact absurd hf (h3 s hs)
    subst h2
    exact ⟨Pk.none, fun z hz => by rw [z0 z hz]; exact Nat.le_refl _, fun z hz _ c _ => by rw [z0 z hz]; exact Nat.le_refl _⟩
  · obtain ⟨u1, u2⟩ := hq.us s0 h1
    have hb : b = pS K.v x 5 := by rw [h5, h4, pS_ad, pS_sc, if_pos u1, Nat.one_mul]
    have hv := (K.v_pos u2).1
    have up : ∀ z, Pk K 0 i j z → pS K.v z 5 ≤ b := by
      intro z hz
      rcases Classical.em (z = pz) with r | r
      · rw [r, pS_z]; exact Nat.zero_le _
      · obtain ⟨c, h0⟩ := p_zero (K := K) (k := 0) (i := i) (j := j) r
        obtain ⟨s, hs, e, hf, hp, hev⟩ := one z c hz h0
        subst e
        obtain ⟨y', hy'⟩ := hc s hs hf
        have a := hy'.2.1 _ hp
        have b' := h7 s hs hf y' hy'
        omega
    refine ⟨?_, fun z hz => hb ▸ up z hz, fun z hz he c hag => ?_⟩
    · rw [h4]
      refine Pk.more ?_ (Nat.zero_le _) u1 u2 (by rw [Nat.one_mul]; exact h2.1) (by rw [Nat.one_mul]; exact h2.2)
      rw [Nat.one_mul, Nat.one_mul]
      exact h3.1
    · rcases Nat.lt_or_ge c (q s0) with hlt | hge
      · rcases Nat.eq_zero_or_pos (z c) with r | r
        · rw [r]; exact Nat.zero_le _
        · exfalso
          obtain ⟨s, hs, e, hf, hp, hev⟩ := one z c hz (by omega)
          subst e
          obtain ⟨y', hy'⟩ := hc s hs hf
          have a := hy'.2.1 _ hp
          have hss : s < s0 := by
            rcases Nat.lt_or_ge s s0 with r2 | r2
            · exact r2
            · exfalso
              by_cases e2 : s = s0
              · subst e2; omega
              · have := hq.mo s0 s (by omega) hs
                omega
          have b' := h6 s hss hf y' hy'
          omega
      · rcases Nat.eq_zero_or_pos (z (q s0)) with r | r
        · by_cases e : c = q s0
          · rw [e, r]; exact Nat.zero_le _
          · exfalso
            have := hag (q s0) (by omega)
            rw [r, h4] at this
            simp [pad, psc] at this
        · have hl := hz.less (t := 1) (c := q s0) (by omega) (by omega)
          rw [Nat.one_mul, Nat.one_mul, Nat.one_mul] at hl
          have ez : pS K.v (fun d => if d = q s0 then z (q s0) - 1 else z d) 5 = pS K.v y 5 := by
            have := hl.2.2.2
            omega
          have lx := h3.2.2 _ hl.2.2.1 ez c (fun d hd => by
            have := hag d hd
            rw [h4] at this
            simp only [pad, psc] at this
            split
            · rename_i e; subst e; simp at this; omega
            · rename_i e; rw [if_neg e] at this; omega)
          rw [h4]
          simp only [pad, psc]
          split
          · rename_i e; subst e; rw [if_pos rfl] at lx; omega
          · rename_i e; rw [if_neg e] at lx; omega
