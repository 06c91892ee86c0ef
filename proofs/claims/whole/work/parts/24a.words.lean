/-! ===== shift, the reference: words ===== -/
theorem Pk.mono {K : Kd} {k i j : Nat} {y : Nat → Nat} (h : Pk K (k + 1) i j y) : Pk K k i j y :=
  ⟨fun c hc => by have := h.1 c hc; exact ⟨by omega, this.2⟩, h.2⟩
theorem Pk.up {K : Kd} {k i j : Nat} {y : Nat → Nat} (h : Pk K k i j y) (h0 : y k = 0) : Pk K (k + 1) i j y :=
  ⟨fun c hc => by
    have q := h.1 c hc
    refine ⟨?_, q.2⟩
    rcases Nat.lt_or_ge k c with r | r
    · omega
    · exfalso
      have e : c = k := by omega
      subst e
      exact hc h0, h.2⟩
theorem Pk.z {K : Kd} {k i j : Nat} {y : Nat → Nat} (h : Pk K (k + 1) i j y) : y k = 0 := by
  rcases Nat.eq_zero_or_pos (y k) with r | r
  · exact r
  · have := (h.1 k (by omega)).1
    omega
def pdr (z : Nat → Nat) (k : Nat) : Nat → Nat := fun d => if d = k then 0 else z d
theorem Pk.drop {K : Kd} {k i j : Nat} {z : Nat → Nat} (h : Pk K k i j z) : z k * K.mi k ≤ i ∧ z k * K.w k ≤ j ∧ Pk K (k + 1) (i - z k * K.mi k) (j - z k * K.w k) (pdr z k) ∧ pS K.v z 5 = pS K.v (pdr z k) 5 + z k * K.v k := by
  rcases Nat.eq_zero_or_pos (z k) with r | r
  · have e : pdr z k = z := by
      funext d
      unfold pdr
      split
      · rename_i q; rw [q, r]
      · rfl
    rw [e, r, Nat.zero_mul, Nat.zero_mul, Nat.zero_mul]
    exact ⟨Nat.zero_le _, Nat.zero_le _, h.up r, rfl⟩
  · have hl := h.less (t := z k) (c := k) (Nat.le_refl _) (by omega)
    have e : (fun d => if d = k then z k - z k else z d) = pdr z k := by
      funext d
      unfold pdr
      rw [Nat.sub_self]
    rw [e] at hl
    exact ⟨hl.1, hl.2.1, hl.2.2.1.up (if_pos rfl), hl.2.2.2⟩
/-- the best value of the kinds from k on -/
def Vx (K : Kd) (k i j v : Nat) : Prop := (∃ y, Pk K k i j y ∧ pS K.v y 5 = v) ∧ ∀ y, Pk K k i j y → pS K.v y 5 ≤ v
theorem Vx.uniq {K : Kd} {k i j a b : Nat} (h : Vx K k i j a) (g : Vx K k i j b) : a = b := by
  obtain ⟨⟨y, hy, rfl⟩, h2⟩ := h
  obtain ⟨⟨z, hz, rfl⟩, g2⟩ := g
  exact Nat.le_antisymm (g2 y hy) (h2 z hz)
theorem Lx.vx {K : Kd} {k i j : Nat} {x : Nat → Nat} (h : Lx K k i j x) : Vx K k i j (pS K.v x 5) := ⟨⟨x, h.1, rfl⟩, h.2.1⟩
theorem Vx.le {K : Kd} {k i j v : Nat} (h : Vx K k i j v) (hi : i ≤ 480) : v ≤ 4915200000 := by
  obtain ⟨⟨y, hy, rfl⟩, _⟩ := h
  exact hy.vb hi
theorem Pk.five {K : Kd} {i j : Nat} {y : Nat → Nat} (h : Pk K 5 i j y) : y = pz := by
  funext c
  rcases Nat.eq_zero_or_pos (y c) with r | r
  · exact r
  · have := h.1 c (by omega)
    omega
theorem Vx.five {K : Kd} {i j : Nat} : Vx K 5 i j 0 := ⟨⟨pz, Pk.none, pS_z _ _⟩, fun y hy => by rw [hy.five, pS_z]; exact Nat.le_refl _⟩
theorem Lx.five {K : Kd} {i j : Nat} : Lx K 5 i j pz := ⟨Pk.none, fun y hy => by rw [hy.five]; exact Nat.le_refl _, fun y hy _ c _ => by rw [hy.five]; exact Nat.le_refl _⟩
theorem Vx.of0 {K : Kd} {k i j v : Nat} (h0 : ∀ z, Pk K k i j z → z k = 0) (h : Vx K (k + 1) i j v) : Vx K k i j v := by
  obtain ⟨⟨y, hy, e⟩, h2⟩ := h
  exact ⟨⟨y, hy.mono, e⟩, fun z hz => h2 z (hz.up (h0 z hz))⟩
theorem Pk.nou {K : Kd} {k i j : Nat} {z : Nat → Nat} (hu : ¬ K.u k = true) (hz : Pk K k i j z) : z k = 0 := by
  rcases Nat.eq_zero_or_pos (z k) with r | r
  · exact r
  · exact absurd (hz.1 k (by omega)).2.2 hu
theorem Pk.nofit {K : Kd} {k i j : Nat} {z : Nat → Nat} (hn : ¬ Fit K i j k) (hz : Pk K k i j z) : z k = 0 := by
  rcases Nat.eq_zero_or_pos (z k) with r | r
  · exact r
  · exfalso
    have hd := hz.drop
    have e1 : 1 * K.mi k ≤ z k * K.mi k := Nat.mul_le_mul_right _ r
    have e2 : 1 * K.w k ≤ z k * K.w k := Nat.mul_le_mul_right _ r
    exact hn ⟨by omega, by omega⟩
theorem Vx.skip {K : Kd} {k i j v : Nat} (hu : ¬ K.u k = true) (h : Vx K (k + 1) i j v) : Vx K k i j v := h.of0 (fun _ hz => hz.nou hu)
theorem Vx.nofit {K : Kd} {k i j v : Nat} (hn : ¬ Fit K i j k) (h : Vx K (k + 1) i j v) : Vx K k i j v := h.of0 (fun _ hz => hz.nofit hn)
theorem Vx.sum {K : Kd} {k i j t a b : Nat} (hk : k < 5) (hu : K.u k = true) (h : Vx K k i j a) (hi : t * K.mi k ≤ i) (hj : t * K.w k ≤ j) (g : Vx K k (i - t * K.mi k) (j - t * K.w k) b) : b + t * K.v k ≤ a := by
  obtain ⟨⟨y, hy, rfl⟩, _⟩ := g
  have h2 := h.2 _ (hy.more (Nat.le_refl k) hk hu hi hj)
  rwa [pS_ad, pS_sc, if_pos hk] at h2
theorem Vx.fit {K : Kd} {k i j a b : Nat} (hk : k < 5) (hu : K.u k = true) (hf : Fit K i j k) (h1 : Vx K (k + 1) i j a) (h2 : Vx K k (i - K.mi k) (j - K.w k) b) : Vx K k i j (if a < b + K.v k then b + K.v k else a) := by
  obtain ⟨⟨y1, p1, rfl⟩, m1⟩ := h1
  obtain ⟨⟨y2, p2, rfl⟩, m2⟩ := h2
  have up : ∀ z, Pk K k i j z → pS K.v z 5 ≤ pS K.v y1 5 ∨ pS K.v z 5 ≤ pS K.v y2 5 + K.v k := by
    intro z hz
    rcases Nat.eq_zero_or_pos (z k) with r | r
    · exact Or.inl (m1 z (hz.up r))
    · have hl := hz.less (t := 1) (c := k) r (by omega)
      rw [Nat.one_mul, Nat.one_mul, Nat.one_mul] at hl
      have := m2 _ hl.2.2.1
      exact Or.inr (by omega)
  split
  · refine ⟨⟨pad y2 (psc 1 k), ?_, by rw [pS_ad, pS_sc, if_pos hk, Nat.one_mul]⟩, fun z hz => ?_⟩
    · refine Pk.more ?_ (Nat.le_refl k) hk hu (by rw [Nat.one_mul]; exact hf.1) (by rw [Nat.one_mul]; exact hf.2)
      rw [Nat.one_mul, Nat.one_mul]
      exact p2
    · have := up z hz
      omega
  · refine ⟨⟨y1, p1.mono, rfl⟩, fun z hz => ?_⟩
    have := up z hz
    omega
theorem Lx.skip {K : Kd} {k i j : Nat} {y : Nat → Nat} (hu : ¬ K.u k = true) (h : Lx K (k + 1) i j y) : Lx K k i j y :=
  ⟨h.1.mono, fun z hz => h.2.1 z (hz.up (hz.nou hu)), fun z hz => h.2.2 z (hz.up (hz.nou hu))⟩
theorem Lx.back {K : Kd} {k i j n left b : Nat} {y : Nat → Nat} (hk : k < 5) (hu : K.u k = true) (hV : Vx K k i j left) (hi : n * K.mi k ≤ i) (hj : n * K.w k ≤ j) (hb : Vx K (k + 1) (i - n * K.mi k) (j - n * K.w k) b) (he : b + n * K.v k = left)
    (hmax : ∀ t, n < t → t * K.mi k ≤ i → t * K.w k ≤ j → ∃ b', Vx K (k + 1) (i - t * K.mi k) (j - t * K.w k) b' ∧ b' + t * K.v k ≠ left)
    (hy : Lx K (k + 1) (i - n * K.mi k) (j - n * K.w k) y) : Lx K k i j (pad y (psc n k)) := by
  have hyb : pS K.v y 5 = b := hy.vx.uniq hb
  have hval : pS K.v (pad y (psc n k)) 5 = left := by rw [pS_ad, pS_sc, if_pos hk, hyb, he]
  have yk := hy.1.z
  refine ⟨hy.1.mono.more (Nat.le_refl k) hk hu hi hj, fun z hz => by rw [hval]; exact hV.2 z hz, fun z hz hze c hag => ?_⟩
  rw [hval] at hze
  have hd := hz.drop
  rcases Nat.lt_trichotomy c k with hlt | heq | hgt
  · rcases Nat.eq_zero_or_pos (z c) with r | r
    · rw [r]; exact Nat.zero_le _
    · have := (hz.1 c (by omega)).1
      omega
  · subst heq
    show z c ≤ y c + (if c = c then n else 0)
    rw [if_pos rfl, yk, Nat.zero_add]
    rcases Nat.lt_or_ge n (z c) with r | r
    · exfalso
      obtain ⟨b', hb', hne⟩ := hmax (z c) r hd.1 hd.2.1
      have g1 := hb'.2 _ hd.2.2.1
      obtain ⟨⟨y', hy', e'⟩, _⟩ := hb'
      have g2 := hV.2 _ (hy'.mono.more (Nat.le_refl c) hk hu hd.1 hd.2.1)
      rw [pS_ad, pS_sc, if_pos hk, e'] at g2
      omega
    · exact r
  · have ek := hag k hgt
    simp only [pad, psc, if_pos, yk, Nat.zero_add] at ek
    rw [ek] at hd
    have e5 : pS K.v (pdr z k) 5 = pS K.v y 5 := by omega
    have lx := hy.2.2 (pdr z k) hd.2.2.1 e5 c (fun d hdc => by
      by_cases e : d = k
      · subst e; rw [yk]; exact if_pos rfl
      · have q := hag d hdc
        simp only [pad, psc, if_neg e, Nat.add_zero] at q
        unfold pdr
        rw [if_neg e]
        exact q)
    unfold pdr at lx
    rw [if_neg (by omega)] at lx
    show z c ≤ y c + (if c = k then n else 0)
    omega
/-- the reference looks for the most of a kind -/
def BI (K : Kd) (i j k left n t : Nat) : Prop := (∀ s, n < s → s < t → s * K.mi k ≤ i → s * K.w k ≤ j → ∀ b, Vx K (k + 1) (i - s * K.mi k) (j - s * K.w k) b → b + s * K.v k ≠ left) ∧ n < t ∧ (n = 0 ∨ (n * K.mi k ≤ i ∧ n * K.w k ≤ j ∧ ∃ b, Vx K (k + 1) (i - n * K.mi k) (j - n * K.w k) b ∧ b + n * K.v k = left))
theorem BI.start {K : Kd} {i j k left : Nat} : BI K i j k left 0 1 := ⟨fun s h1 h2 => by omega, by decide, Or.inl rfl⟩
theorem BI.no {K : Kd} {i j k left n t b : Nat} (h : BI K i j k left n t) (hb : Vx K (k + 1) (i - t * K.mi k) (j - t * K.w k) b) (hne : b + t * K.v k ≠ left) : BI K i j k left n (t + 1) := by
  refine ⟨fun s h1 h2 h3 h4 b' hb' => ?_, by have := h.2.1; omega, h.2.2⟩
  by_cases e : s = t
  · subst e; rw [hb'.uniq hb]; exact hne
  · exact h.1 s h1 (by omega) h3 h4 b' hb'
theorem BI.yes {K : Kd} {i j k left n t b : Nat} (h : BI K i j k left n t) (hi : t * K.mi k ≤ i) (hj : t * K.w k ≤ j) (hb : Vx K (k + 1) (i - t * K.mi k) (j - t * K.w k) b) (he : b + t * K.v k = left) : BI K i j k left t (t + 1) :=
  ⟨fun s h1 h2 => by omega, by omega, Or.inr ⟨hi, hj, b, hb, he⟩⟩
theorem BI.fin {K : Kd} {i j k left n t : Nat} (hk : k < 5) (hu : K.u k = true) (h : BI K i j k left n t) (hV : Vx K k i j left) (hE : ∀ i' j', i' ≤ i → j' ≤ j → ∃ b, Vx K (k + 1) i' j' b) (hout : i < t * K.mi k ∨ j < t * K.w k) :
    n * K.mi k ≤ i ∧ n * K.w k ≤ j ∧ ∃ b, Vx K (k + 1) (i - n * K.mi k) (j - n * K.w k) b ∧ b + n * K.v k = left ∧ ∀ y, Lx K (k + 1) (i - n * K.mi k) (j - n * K.w k) y → Lx K k i j (pad y (psc n k)) := by
  obtain ⟨hs, hlt, hn⟩ := h
  have key : ∀ s, n < s → s * K.mi k ≤ i → s * K.w k ≤ j → ∀ b, Vx K (k + 1) (i - s * K.mi k) (j - s * K.w k) b → b + s * K.v k ≠ left := by
    intro s h1 h2 h3
    rcases Nat.lt_or_ge s t with r | r
    · exact hs s h1 r h2 h3
    · exfalso
      have e1 : t * K.mi k ≤ s * K.mi k := Nat.mul_le_mul_right _ r
      have e2 : t * K.w k ≤ s * K.w k := Nat.mul_le_mul_right _ r
      omega
  have hn' : n * K.mi k ≤ i ∧ n * K.w k ≤ j ∧ ∃ b, Vx K (k + 1) (i - n * K.mi k) (j - n * K.w k) b ∧ b + n * K.v k = left := by
    rcases hn with rfl | hn
    · obtain ⟨⟨y, hy, e⟩, hm⟩ := hV
      have hd := hy.drop
      obtain ⟨b, hb⟩ := hE (i - y k * K.mi k) (j - y k * K.w k) (Nat.sub_le _ _) (Nat.sub_le _ _)
      have g1 := hb.2 _ hd.2.2.1
      have hbe : b + y k * K.v k = left := by
        obtain ⟨⟨y', hy', e'⟩, _⟩ := id hb
        have g2 := hm _ (hy'.mono.more (Nat.le_refl k) hk hu hd.1 hd.2.1)
        rw [pS_ad, pS_sc, if_pos hk, e'] at g2
        omega
      rcases Nat.eq_zero_or_pos (y k) with r | r
      · rw [r] at hd hb hbe
        exact ⟨hd.1, hd.2.1, b, hb, hbe⟩
      · exact absurd hbe (key (y k) r hd.1 hd.2.1 b hb)
    · exact hn
  obtain ⟨h1, h2, b, hb, he⟩ := hn'
  refine ⟨h1, h2, b, hb, he, fun y hy => Lx.back hk hu hV h1 h2 hb he (fun s g1 g2 g3 => ?_) hy⟩
  obtain ⟨b', hb'⟩ := hE (i - s * K.mi k) (j - s * K.w k) (Nat.sub_le _ _) (Nat.sub_le _ _)
  exact ⟨b', hb', key s g1 g2 g3 b' hb'⟩
/-- the table of the reference -/
def Tb (K : Kd) (J : JM) (k i j : Nat) : Prop := ∃ v, Vx K k i j v ∧ J 84 (240981 * k + 501 * i + j) = lN v
def TF (K : Kd) (J : JM) (M G k : Nat) : Prop := ∀ k', k ≤ k' → k' ≤ 5 → ∀ i, i ≤ M → ∀ j, j ≤ G → Tb K J k' i j
def TI (K : Kd) (J : JM) (M G k i j : Nat) : Prop := TF K J M G (k + 1) ∧ (∀ i', i' < i → ∀ j', j' ≤ G → Tb K J k i' j') ∧ ∀ j', j' < j → Tb K J k i j'
theorem Tb.keep {K : Kd} {J : JM} {k i j c : Nat} {x : Int64} (h : Tb K J k i j) (hc : 240981 * k + 501 * i + j ≠ c) : Tb K (ju J 84 c x) k i j := by
  obtain ⟨v, h1, h2⟩ := h
  exact ⟨v, h1, by rw [ju_k hc]; exact h2⟩
theorem TI.put {K : Kd} {J : JM} {M G k i j v : Nat} (h : TI K J M G k i j) (hM : M ≤ 480) (hG : G ≤ 500) (hi : i ≤ M) (hj : j ≤ G) (hv : Vx K k i j v) : TI K (ju J 84 (240981 * k + 501 * i + j) (lN v)) M G k i (j + 1) := by
  obtain ⟨h1, h2, h3⟩ := h
  refine ⟨fun k' q1 q2 i' q3 j' q4 => (h1 k' q1 q2 i' q3 j' q4).keep (by omega), fun i' q1 j' q2 => (h2 i' q1 j' q2).keep (by omega), fun j' q1 => ?_⟩
  by_cases e : j' = j
  · subst e; exact ⟨v, hv, ju_same⟩
  · exact (h3 j' (by omega)).keep (by omega)
theorem TI.row {K : Kd} {J : JM} {M G k i : Nat} (h : TI K J M G k i (G + 1)) : TI K J M G k (i + 1) 0 := by
  obtain ⟨h1, h2, h3⟩ := h
  refine ⟨h1, fun i' q1 j' q2 => ?_, fun j' q => absurd q (Nat.not_lt_zero _)⟩
  by_cases e : i' = i
  · subst e; exact h3 j' (by omega)
  · exact h2 i' (by omega) j' q2
theorem TI.full {K : Kd} {J : JM} {M G k : Nat} (h : TI K J M G k (M + 1) 0) : TF K J M G k := by
  intro k' q1 q2 i hi j hj
  by_cases e : k' = k
  · subst e; exact h.2.1 i (by omega) j hj
  · exact h.1 k' (by omega) q2 i hi j hj
theorem TF.start {K : Kd} {J : JM} {M G k : Nat} (h : TF K J M G (k + 1)) : TI K J M G k 0 0 := ⟨h, fun i' q => absurd q (Nat.not_lt_zero _), fun j' q => absurd q (Nat.not_lt_zero _)⟩
theorem TF.six {K : Kd} {J : JM} {M G : Nat} : TF K J M G 6 := fun k' q1 q2 => by omega
/-- the reference's memory holds the kinds K as a shift in the colour c sees them -/
def KM (I : IM) (c : Int32) (K : Kd) : Prop := ∀ k, k < 5 → isOfF (I 58 k) (I 62 k) c = (if K.u k = true then 1 else 0) ∧ (K.u k = true → I 59 k = nI (K.w k) ∧ I 60 k = nI (K.mi k) ∧ I 61 k = nI (K.p k))
theorem KM.u1 {I : IM} {c : Int32} {K : Kd} (h : KM I c K) {k : Nat} (hk : k < 5) (hn : ¬ isOfF (I 58 k) (I 62 k) c = 0) : K.u k = true := by
  rcases Classical.em (K.u k = true) with r | r
  · exact r
  · exact absurd ((h k hk).1.trans (if_neg r)) hn
theorem KM.u0 {I : IM} {c : Int32} {K : Kd} (h : KM I c K) {k : Nat} (hk : k < 5) (hn : isOfF (I 58 k) (I 62 k) c = 0) : ¬ K.u k = true := fun r => absurd (((h k hk).1.trans (if_pos r)).symm.trans hn) (by decide)
theorem pS_price {K : Kd} {x : Nat → Nat} (h : ∀ c, x c ≠ 0 → K.u c = true) : ∀ n, pS K.v x n + pS K.mi x n = 1024 * pS K.p x n
  | 0 => rfl
  | n + 1 => by
    show pS K.v x n + x n * K.v n + (pS K.mi x n + x n * K.mi n) = 1024 * (pS K.p x n + x n * K.p n)
    have ih := pS_price h n
    have e : x n * K.v n + x n * K.mi n = 1024 * (x n * K.p n) := by
      rcases Nat.eq_zero_or_pos (x n) with r | r
      · rw [r]; simp
      · rw [← Nat.mul_add, (K.v_pos (h n (by omega))).2.2, Nat.mul_left_comm]
    rw [Nat.mul_add]
    omega
theorem lN_v {p m t : Nat} (hp : 1 ≤ p) (hm : m ≤ 60) (hp2 : p ≤ 10000) (ht : t < 2 ^ 31) : (nI t).toInt64 * (1024 * (nI p).toInt64 - (nI m).toInt64) = lN (t * (1024 * p - m)) := by
  rw [nI_l ht, nI_l (show p < 2 ^ 31 by omega), nI_l (show m < 2 ^ 31 by omega), show (1024 : Int64) = lN 1024 from rfl, lN_mul, lN_sub (by omega), lN_mul]
theorem sumLm {a p m : Nat} (hp : p ≤ 10000) (hm : m ≤ 60) (h1 : 1 ≤ p) : lN a + 1024 * (nI p).toInt64 - (nI m).toInt64 = lN (a + (1024 * p - m)) := by
  rw [Int64.mul_comm]
  exact sumL hp hm h1
/-- the way back -/
def CI (K : Kd) (M G k i j left : Nat) (pre : Nat → Nat) : Prop := Vx K k i j left ∧ i + pS K.mi pre 5 = M ∧ j + pS K.w pre 5 = G ∧ (∀ d, k ≤ d → pre d = 0) ∧ ∀ y, Lx K k i j y → Lx K 0 M G (pad pre y)
theorem CI.start {K : Kd} {M G v : Nat} (h : Vx K 0 M G v) : CI K M G 0 M G v pz := ⟨h, by rw [pS_z]; rfl, by rw [pS_z]; rfl, fun _ _ => rfl, fun y hy => by
  have e : pad pz y = y := by funext d; simp [pad, pz]
  rw [e]; exact hy⟩
theorem CI.skip {K : Kd} {M G k i j left v : Nat} {pre : Nat → Nat} (h : CI K M G k i j left pre) (hu : ¬ K.u k = true) (hv : Vx K (k + 1) i j v) : CI K M G (k + 1) i j left pre := by
  obtain ⟨h1, h2, h3, h4, h5⟩ := h
  have e : v = left := (hv.skip hu).uniq h1
  exact ⟨e ▸ hv, h2, h3, fun d hd => h4 d (by omega), fun y hy => h5 y (hy.skip hu)⟩
theorem CI.take {K : Kd} {M G k i j left n b : Nat} {pre : Nat → Nat} (h : CI K M G k i j left pre) (hk : k < 5) (hi : n * K.mi k ≤ i) (hj : n * K.w k ≤ j) (hb : Vx K (k + 1) (i - n * K.mi k) (j - n * K.w k) b) (hL : ∀ y, Lx K (k + 1) (i - n * K.mi k) (j - n * K.w k) y → Lx K k i j (pad y (psc n k))) : CI K M G (k + 1) (i - n * K.mi k) (j - n * K.w k) b (pad pre (psc n k)) := by
  obtain ⟨h1, h2, h3, h4, h5⟩ := h
  refine ⟨hb, by rw [pS_ad, pS_sc, if_pos hk]; omega, by rw [pS_ad, pS_sc, if_pos hk]; omega, fun d hd => ?_, fun y hy => ?_⟩
  · show pre d + (if d = k then n else 0) = 0
    rw [h4 d (by omega), if_neg (by omega)]
  · have q := h5 _ (hL y hy)
    have e : pad (pad pre (psc n k)) y = pad pre (pad y (psc n k)) := by
      funext d
      simp only [pad]
      omega
    rw [e]; exact q
theorem CI.done {K : Kd} {M G i j left : Nat} {pre : Nat → Nat} (h : CI K M G 5 i j left pre) : Lx K 0 M G pre := by
  have q := h.2.2.2.2 pz Lx.five
  have e : pad pre pz = pre := by funext d; simp [pad, pz]
  rwa [e] at q
def shmQ (sh : List Sh) (I : IM) (J : JM) (R : RM) (K : Kd) (M G : Nat) : CQ := fun v sh' I' J' R' => ∃ x, Lx K 0 M G x ∧ v = some (.int (nI (pS K.p x 5))) ∧ sh' = sh ∧ R' = R ∧ (∀ a, a ≠ 84 → J' a = J a) ∧ (∀ a, a ≠ 85 → I' a = I a) ∧ I' 85 5 = nI (pS K.mi x 5) ∧ I' 85 6 = nI (pS K.w x 5) ∧ ∀ k, k < 5 → I' 85 k = nI (x k)
def PreI (I Ii : IM) (k : Nat) (pre : Nat → Nat) : Prop := (∀ a, a ≠ 85 → Ii a = I a) ∧ ∀ c, c < k → Ii 85 c = nI (pre c)
theorem PreI.put {I Ii : IM} {k n : Nat} {pre : Nat → Nat} (h : PreI I Ii k pre) (h0 : pre k = 0) : PreI I (iu Ii 85 k (nI n)) (k + 1) (pad pre (psc n k)) := by
  refine ⟨fun a ha => by rw [iu_ne a ha]; exact h.1 a ha, fun c hc => ?_⟩
  by_cases e : c = k
  · subst e; rw [iu_same]; simp [pad, psc, h0]
  · rw [iu_k e, h.2 c (by omega)]; simp [pad, psc, e]
theorem PreI.put0 {I Ii : IM} {k : Nat} {pre : Nat → Nat} (h : PreI I Ii k pre) (h0 : pre k = 0) : PreI I (iu Ii 85 k 0) (k + 1) pre := by
  refine ⟨fun a ha => by rw [iu_ne a ha]; exact h.1 a ha, fun c hc => ?_⟩
  by_cases e : c = k
  · subst e; rw [iu_same, h0]; rfl
  · rw [iu_k e, h.2 c (by omega)]
