/-! ===== the relation between the class and the reference ===== -/
def RN (x y : Int32) (b : Nat) : Prop := ∃ v, v ≤ b ∧ x = nI v ∧ y = nI v
def BY (x y : Int32) : Prop := ∃ v : Nat, v < 256 ∧ x = nI v ∧ y = (nI v).toInt8.toInt32
def RKd (I : IM) : Prop := ∀ k, k < 5 → (∀ f, f < 8 → I (58 + f) k = I (25 + k) f) ∧ (I (25 + k) 0 = 0 ∨ (I (25 + k) 0 = 1 ∧ (∃ w, 1 ≤ w ∧ w ≤ 50 ∧ I (25 + k) 1 = nI w) ∧ (∃ m, 1 ≤ m ∧ m ≤ 60 ∧ I (25 + k) 2 = nI m) ∧ (∃ p, 1 ≤ p ∧ p ≤ 10000 ∧ I (25 + k) 3 = nI p)))
def RPt (I : IM) (k : Nat) : Prop := I 53 k = I (18 + k) 0 ∧ (I (18 + k) 0 = -1 ∨ ((∃ b, b < 200 ∧ I (18 + k) 0 = nI b) ∧ I 54 k = I (18 + k) 1 ∧ I 55 k = I (18 + k) 2 ∧ I 56 k = I (18 + k) 3 ∧ I 57 k = I (18 + k) 4 ∧ ∃ d, d ≤ 3 * ix (I 0 11) ∧ I (18 + k) 2 = nI d))
def RPots (I : IM) : Prop := ∀ k, k < 6 → RPt I k
def PF (I : IM) (p k : Nat) : Prop := I 67 k = I p 0 ∧ I 68 k = I p 1 ∧ I 69 k = I p 2 ∧ I 70 k = I p 3 ∧ I 75 k = I p 4 ∧ I 74 k = I p 5 ∧ I 71 k = I p 6 ∧ I 72 k = I p 7 ∧ I 73 k = I p 8
def inB (I : IM) (b k : Nat) : Bool := decide (I 71 k = 0 ∧ I 72 k = nI b)
def pl (I : IM) (pa : Nat → Nat) (n b : Nat) : List Nat := ((List.range n).filter (inB I b)).map pa
def RPc (sh : List Sh) (I : IM) (R : RM) (n : Nat) (pa : Nat → Nat) : Prop :=
  (∀ k, k < n → R 38 k = some (pa k) ∧ sh[pa k]? = some (.inl 6) ∧ 90 ≤ pa k ∧ PF I (pa k) k) ∧ (∀ j k, j < n → k < n → pa j = pa k → j = k) ∧ (∀ b, b < 3 → BayOK sh I R (31 + 2 * b) (32 + 2 * b) (pl I pa n b) ∧ I 76 b = I (31 + 2 * b) 1) ∧ ∀ k, k < n → I 71 k = 0 → ∃ b, b < 3 ∧ I 72 k = nI b
def RPiece (sh : List Sh) (I : IM) (R : RM) (c : Nat) : Prop := ∃ n pa, n ≤ c ∧ I 0 14 = nI n ∧ I 47 27 = nI n ∧ RPc sh I R n pa
def RSh (I : IM) : Prop := (I 39 5 = 0 ∧ ∀ k, k < 7 → I 85 k = -1) ∨ (I 39 5 = 1 ∧ (∀ k, k < 5 → I 85 k = I 41 k) ∧ I 85 5 = I 39 6 ∧ I 85 6 = I 39 7)
def RCo (I : IM) : Prop := ∀ s y, s < 5 → y < 10 → I 86 (10 * s + y) = I 43 (y * 5 + s)
def RScal (I : IM) : Prop := RN (I 0 11) (I 47 0) 5000 ∧ RN (I 1 2) (I 47 1) 4 ∧ RN (I 1 3) (I 47 2) 20000 ∧ RN (I 4 4) (I 47 3) 20 ∧ I 47 4 = I 4 5 ∧ I 47 5 = I 0 12 ∧ RN (I 4 3) (I 47 8) 20 ∧ RN (I 0 13) (I 47 12) 200
def RRows (I : IM) : Prop := I 48 = I 2 ∧ I 49 = I 3 ∧ I 50 = I 5 ∧ I 51 = I 6 ∧ I 52 = I 7 ∧ I 66 = I 37
def RText (I : IM) : Prop := RN (I 8 5) (I 47 39) 200 ∧ (∀ k, BY (I 9 k) (I 77 k)) ∧ RN (I 14 2) (I 47 42) 8 ∧ I 78 = I 15 ∧ I 79 = I 16
def RMove (I : IM) : Prop := RCo I ∧ I 87 = I 44 ∧ RN (I 42 4) (I 47 56) 10 ∧ I 89 = I 46
def Rel (sh : List Sh) (I : IM) (J : JM) (R : RM) (c : Nat) : Prop :=
  (St sh R ∧ WP sh R ∧ Blank sh I J R) ∧ RScal I ∧ RRows I ∧ RKd I ∧ RPots I ∧ RText I ∧ RSh I ∧ RMove I ∧ RPiece sh I R c
section RelP
variable {sh : List Sh} {I I' : IM} {J : JM} {R : RM} {c c' : Nat}
theorem Rel.st (h : Rel sh I J R c) : St sh R := h.1.1
theorem Rel.wp (h : Rel sh I J R c) : WP sh R := h.1.2.1
theorem Rel.bl (h : Rel sh I J R c) : Blank sh I J R := h.1.2.2
theorem Rel.sc (h : Rel sh I J R c) : RScal I := h.2.1
theorem Rel.rws (h : Rel sh I J R c) : RRows I := h.2.2.1
theorem Rel.kd (h : Rel sh I J R c) : RKd I := h.2.2.2.1
theorem Rel.pots (h : Rel sh I J R c) : RPots I := h.2.2.2.2.1
theorem Rel.tx (h : Rel sh I J R c) : RText I := h.2.2.2.2.2.1
theorem Rel.shf (h : Rel sh I J R c) : RSh I := h.2.2.2.2.2.2.1
theorem Rel.mv (h : Rel sh I J R c) : RMove I := h.2.2.2.2.2.2.2.1
theorem Rel.pc (h : Rel sh I J R c) : RPiece sh I R c := h.2.2.2.2.2.2.2.2
theorem RPiece.mono (h : RPiece sh I R c) (hc : c ≤ c') : RPiece sh I R c' := by
  obtain ⟨n, pa, q1, q2⟩ := h
  exact ⟨n, pa, Nat.le_trans q1 hc, q2⟩
theorem Rel.mono (h : Rel sh I J R c) : Rel sh I J R (c + 1) := ⟨h.1, h.sc, h.rws, h.kd, h.pots, h.tx, h.shf, h.mv, h.pc.mono (Nat.le_succ c)⟩
theorem RKd.fr (h : RKd I) (h1 : ∀ a, 25 ≤ a → a < 30 → I' a = I a) (h2 : ∀ a, 58 ≤ a → a < 66 → I' a = I a) : RKd I' := by
  intro k hk
  have q := h k hk
  rw [h1 (25 + k) (by omega) (by omega)]
  refine ⟨fun f hf => ?_, q.2⟩
  rw [h2 (58 + f) (by omega) (by omega)]
  exact q.1 f hf
theorem RPots.fr (h : RPots I) (h1 : ∀ a, 18 ≤ a → a < 24 → I' a = I a) (h2 : ∀ a, 53 ≤ a → a < 58 → I' a = I a) (h3 : ix (I 0 11) ≤ ix (I' 0 11)) : RPots I' := by
  intro k hk
  obtain ⟨q0, q⟩ := h k hk
  unfold RPt
  rw [h1 (18 + k) (by omega) (by omega), h2 53 (by decide) (by decide), h2 54 (by decide) (by decide), h2 55 (by decide) (by decide), h2 56 (by decide) (by decide), h2 57 (by decide) (by decide)]
  refine ⟨q0, ?_⟩
  rcases q with q | ⟨b, g1, g2, g3, g4, d, hd, e⟩
  · exact Or.inl q
  · exact Or.inr ⟨b, g1, g2, g3, g4, d, by omega, e⟩
theorem PF.fr {p k : Nat} (h : PF I p k) (h1 : ∀ a, 67 ≤ a → a < 77 → I' a = I a) (h2 : I' p = I p) : PF I' p k := by
  unfold PF at h ⊢
  rw [h2, h1 67 (by decide) (by decide), h1 68 (by decide) (by decide), h1 69 (by decide) (by decide), h1 70 (by decide) (by decide), h1 71 (by decide) (by decide), h1 72 (by decide) (by decide), h1 73 (by decide) (by decide), h1 74 (by decide) (by decide), h1 75 (by decide) (by decide)]
  exact h
theorem pl_fr {pa : Nat → Nat} {n b : Nat} (h1 : ∀ k, k < n → I' 71 k = I 71 k ∧ I' 72 k = I 72 k) : pl I' pa n b = pl I pa n b := by
  unfold pl
  congr 1
  apply List.filter_congr
  intro k hk
  have := h1 k (List.mem_range.mp hk)
  unfold inB
  rw [this.1, this.2]
theorem RPiece.fr (h : RPiece sh I R c) (h1 : ∀ a, 67 ≤ a → a < 77 → I' a = I a) (h2 : ∀ a, 90 ≤ a → I' a = I a) (h3 : ∀ b, b < 3 → I' (31 + 2 * b) = I (31 + 2 * b)) (h4 : I' 0 14 = I 0 14) (h5 : I' 47 27 = I 47 27) (hc : c ≤ c') : RPiece sh I' R c' := by
  obtain ⟨n, pa, q1, q2, q3, p1, p2, p3, p4⟩ := h
  refine ⟨n, pa, Nat.le_trans q1 hc, h4.trans q2, h5.trans q3, fun k hk => ?_, p2, fun b hb => ?_, fun k hk => ?_⟩
  · obtain ⟨g1, g2, g3, g4⟩ := p1 k hk
    exact ⟨g1, g2, g3, g4.fr h1 (h2 _ g3)⟩
  · obtain ⟨g1, g2⟩ := p3 b hb
    rw [pl_fr (I := I) (fun k _ => ⟨by rw [h1 71 (by decide) (by decide)], by rw [h1 72 (by decide) (by decide)]⟩)]
    refine ⟨g1.mv (by rw [h3 b hb]) rfl, ?_⟩
    rw [h1 76 (by decide) (by decide), h3 b hb]
    exact g2
  · rw [h1 71 (by decide) (by decide), h1 72 (by decide) (by decide)]
    exact p4 k hk
theorem RN.at {x y : Int32} {b n : Nat} (h : RN x y b) (hb : b < n) (hn : n < 2 ^ 31) : At x n (ix x) ∧ At y n (ix y) := by
  obtain ⟨v, h1, rfl, rfl⟩ := h
  have e : ix (nI v) = v := nI_clamp (by omega)
  rw [e]
  exact ⟨at_nI (by omega) hn, at_nI (by omega) hn⟩
theorem RN.eq {x y : Int32} {b : Nat} (h : RN x y b) : y = x := by
  obtain ⟨v, h1, rfl, rfl⟩ := h
  rfl
theorem RN.mk {x y : Int32} {b : Nat} (h : y = x) (hx : ∃ v, v ≤ b ∧ x = nI v) : RN x y b := by
  obtain ⟨v, h1, h2⟩ := hx
  exact ⟨v, h1, h2, h.trans h2⟩
theorem end_iff {x y : Int32} (h : RN x y 5000) : endF x = 0 ↔ ¬ y = 5000 := by
  obtain ⟨v, h1, rfl, rfl⟩ := h
  unfold endF
  constructor
  · intro q e
    rw [show (5000 : Int32) = nI 5000 from rfl] at e q
    have := (nI_eq (by omega) (by decide)).mp e
    subst this
    rw [if_neg (nI_nlt (Nat.le_refl _) (by decide))] at q
    exact absurd q (by decide)
  · intro q
    have hv : v < 5000 := by
      rcases Nat.lt_or_ge v 5000 with r | r
      · exact r
      · exact absurd (show nI v = 5000 by rw [show v = 5000 by omega]; rfl) q
    exact if_pos (nI_lt hv (by decide))
theorem pair_row {a b j : Nat} {x : Int32} (h : I b = I a) (hab : a ≠ b) : iu (iu I a j x) b j x b = iu (iu I a j x) b j x a := by
  funext k
  have hba : b ≠ a := fun e => hab e.symm
  have := congrFun h k
  simp only [iu_ap]
  by_cases e : k = j
  · simp [e, hab]
  · simp [e, hab, hba, this]
theorem ixn {v : Nat} (h : v < 2 ^ 31) : ix (nI v) = v := nI_clamp h
end RelP
