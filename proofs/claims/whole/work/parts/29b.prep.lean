/-! ===== the law: what the calls need ===== -/
def GF (R : RM) (g : Nat) : Prop := (g = 0 ∧ R 39 0 = none ∧ R 39 1 = none) ∨ (g = 1 ∧ ¬ R 39 0 = none)
def NX (E : En) (X : Ctx) (Z : State → Prop) (b c : Nat) : Prop := ∀ (sh : List Sh) (I : IM) (J : JM) (R : RM) (g : Nat), Rel sh I J R (c + 1) → GF R g → V E X Z (90 + 2 * g + (c + 1)) (1457153 + 9 * (c + 1) + 49062 * g) sh I J R 18 [some (.retAddr b), some (.ref 0), some (.ref 47), some (.int (nI (8 * (c + 1))))] []
theorem GF.le {R : RM} {g : Nat} (h : GF R g) : g ≤ 1 := by rcases h with ⟨q, _⟩ | ⟨q, _⟩ <;> omega
theorem inc8 (c : Nat) : nI (8 * c) + Int32.ofInt 8 = nI (8 * (c + 1)) := by
  rw [show Int32.ofInt 8 = nI 8 from by decide, nI_add]
  congr 1
section Prep
variable {sh : List Sh} {I : IM} {J : JM} {R : RM} {c n : Nat} {pa : Nat → Nat}
theorem cutI_48 {m : Int32} : cutI I m 47 = I 47 := by
  unfold cutI fellI
  split
  · rfl
  · split
    · rw [iu_ne 47 (by decide), iu_ne 47 (by decide)]
    · rfl
theorem coldI_48 {f t d : Int32} : coldI I f t d 47 = I 47 := by
  unfold coldI spellI
  split
  · split
    · rw [iu_ne 47 (by decide), iu_ne 47 (by decide), iu_ne 47 (by decide), iu_ne 47 (by decide)]
    · rfl
  · rfl
theorem moveI_48 {y : Int32} : moveI I y 47 = I 47 := by
  unfold moveI
  split
  · rfl
  · exact planI_o (by decide) (by decide) (by decide)
theorem cold_at {x y : Int32} (h : RN x y 20) (hl : x < 20) : At x 20 (ix x) := by
  obtain ⟨v, hv, rfl, rfl⟩ := h
  have := (nI_ltI (b := 20) (by omega) (by decide)).mp hl
  rw [ixn (by omega)]
  exact at_nI this (by decide)
theorem cold_atm {x y : Int32} (h : RN x y 20) (hl : ¬ y = 20) : At y 20 (ix y) := by
  obtain ⟨v, hv, rfl, rfl⟩ := h
  have : v < 20 := by
    rcases Nat.lt_or_ge v 20 with q | q
    · exact q
    · exact absurd (show nI v = 20 by rw [show v = 20 by omega]; rfl) hl
  rw [ixn (by omega)]
  exact at_nI this (by decide)
theorem feed48 {a b d e x y : Int32} (h : I 47 39 = y) : (if n + 20 ≤ 200 then feedI I n a b d e x else I) 47 39 = y := by
  split
  · rw [feedI_o (by decide) (by decide)]; exact h
  · exact h
theorem feed_r (h : Rel sh I J R c) (a b d e x : Int32) : Rel sh (if n + 20 ≤ 200 then feedIm (if n + 20 ≤ 200 then feedI I n a b d e x else I) n a b d e x else (if n + 20 ≤ 200 then feedI I n a b d e x else I)) J R (c + 1) := by
  by_cases q : n + 20 ≤ 200
  · rw [if_pos q, if_pos q]; exact feed_rel h q a b d e x
  · rw [if_neg q, if_neg q]; exact h.mono
theorem lay48 (p s a b : Int32) : (if layOk I p s a b then layI I n p s a b else I) 47 = I 47 := by
  split
  · rename_i hk
    unfold layOk at hk
    simp only [Bool.and_eq_true, Bool.not_eq_true', beq_eq_false_iff_ne, ne_eq] at hk
    obtain ⟨_, l⟩ := ix_le (n := 5) hk.1.1 rfl (by decide)
    unfold layI
    rw [iu_ne 47 (by decide), iu_ne 47 (by omega), fillI_o (by omega), iu_ne 47 (by decide)]
  · rfl
theorem openI_48 (hp : RPc sh I R n pa) (y : Int32) {b : Nat} : openI I (pl I pa n b) y 47 = I 47 := by
  unfold openI
  split
  · rfl
  · rename_i hw
    obtain ⟨_, l⟩ := ix_le (n := 2) hw rfl (by decide)
    rw [iu_ne 47 (by decide), iu_ne 47 (by omega), brkL_o (fun z => by have := pl_ge hp z; omega)]
theorem open_lt {y : Int32} (hw : ¬ wI y 0 2 = 0) : ix y < 3 := by
  obtain ⟨_, l⟩ := ix_le (n := 2) hw rfl (by decide)
  omega
theorem piece_at {k x : Int32} (hx : x = nI n) (hn : n ≤ 1000) (hw : ¬ wI k 0 (x - 1) = 0) : At k 1000 (ix k) := by
  rw [hx] at hw
  have q := wI_n hw (by omega)
  have e := q.eq (by omega)
  have l := q.lt
  rw [e, ixn (by omega)]
  exact at_nI (by omega) (by decide)
theorem pass_mid (h : Rel sh I J R c) (hp : RPc sh I R n pa) {x : Int32} {ns : Nat} (hw : ¬ wI x 1 500 = 0) : ∀ a, 38 ≤ a → a < 90 → (passC ns (ix x) (I, pl I pa n 0, pl I pa n 1, pl I pa n 2)).1 a = I a := by
  obtain ⟨v, hv, hx, hy⟩ := id h.sc.1
  obtain ⟨ex, lx⟩ := hrs hw
  have hpa : ∀ k, k < n → 90 ≤ pa k := fun k hk => (hp.1 k hk).2.2.1
  obtain ⟨_, ck⟩ := HR.pass (n := ns) hp.2.1 hpa (ix x) _ _ v (3 * v) (HR.of h hp hv hx hy) (by omega)
  intro a h1 h2
  exact ck.1 a (fun k hk e => by have := hpa k hk; omega) (by unfold touchC; omega)
theorem lt_L {L : Nat} (hL : L ≤ 4096) (h : ¬ nI L - 8 < nI (8 * c)) (hc : 8 * c ≤ 4096) : 8 * c + 8 ≤ L := by
  rw [Int32.lt_iff_toInt_lt, show (8 : Int32) = nI 8 from rfl, pk_sub_toInt (by omega) (by omega), nI_toInt (by omega)] at h
  omega
end Prep
