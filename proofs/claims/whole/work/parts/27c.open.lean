/-! ===== the relation kept: open ===== -/
def sW (f : Nat → Int32) : List Nat → Int32
  | [] => 0
  | j :: t => f j + sW f t
theorem sW_map {f g : Nat → Int32} {pa : Nat → Nat} : ∀ (L : List Nat), (∀ j, j ∈ L → f (pa j) = g j) → sW f (L.map pa) = sW g L
  | [], _ => rfl
  | j :: t, h => by
    show f (pa j) + sW f (t.map pa) = g j + sW g t
    rw [h j List.mem_cons_self, sW_map t (fun i hi => h i (List.mem_cons_of_mem _ hi))]
theorem brkL_1 : ∀ (l : List Nat) (I : IM) (w : Int32), (brkL l I w).1 = w + sW (fun p => I p 4) l
  | [], I, w => (Int32.add_zero w).symm
  | p :: t, I, w => by
    show (brkL t (iu I p 6 3) (w + I p 4)).1 = w + (I p 4 + sW (fun p => I p 4) t)
    rw [brkL_1 t, show (fun q => iu I p 6 3 q 4) = (fun q => I q 4) from funext (fun q => iu_k (by decide)), Int32.add_assoc]
theorem brkL_2 : ∀ (l : List Nat) (I : IM) (w : Int32) (a j : Nat), (brkL l I w).2 a j = if a ∈ l ∧ j = 6 then 3 else I a j
  | [], I, w, a, j => by simp [brkL]
  | p :: t, I, w, a, j => by
    show (brkL t (iu I p 6 3) (w + I p 4)).2 a j = _
    rw [brkL_2 t, iu_ap]
    by_cases h1 : a = p
    · by_cases h2 : j = 6
      · simp [h1, h2]
      · simp [h2]
    · by_cases h2 : a ∈ t
      · simp [h1, h2]
      · simp [h1, h2]
theorem brkL_o {l : List Nat} {I : IM} {w : Int32} {a : Nat} (h : a ∉ l) : (brkL l I w).2 a = I a := by
  funext j
  rw [brkL_2, if_neg (fun q => h q.1)]
def opL (q m k : Nat) (I : IM) : List Nat := (List.range' k m).filter (inB I q)
theorem opM_eq (q : Nat) : ∀ (m k : Nat) (I : IM) (c : Int32), (opM (nI q) m k I c).2 = c + nI (opL q m k I).length ∧ ∀ a j, (opM (nI q) m k I c).1 a j = if a = 71 ∧ j ∈ opL q m k I then 3 else if a = 47 ∧ j = 5 then I 47 5 + sW (I 75) (opL q m k I) else I a j
  | 0, k, I, c => by
    refine ⟨(Int32.add_zero c).symm, fun a j => ?_⟩
    show I a j = _
    simp only [opL, List.range', List.filter_nil, List.not_mem_nil, and_false, if_false, sW, Int32.add_zero]
    split
    · rename_i h; rw [h.1, h.2]
    · rfl
  | m + 1, k, I, c => by
    by_cases h : I 71 k = 0 ∧ I 72 k = nI q
    · have e1 : opM (nI q) (m + 1) k I c = opM (nI q) m (k + 1) (iu (iu I 71 k 3) 47 5 (I 47 5 + I 75 k)) (c + 1) := by
        show (if I 71 k = 0 ∧ I 72 k = nI q then _ else _) = _
        rw [if_pos h]
      have e2 : opL q m (k + 1) (iu (iu I 71 k 3) 47 5 (I 47 5 + I 75 k)) = opL q m (k + 1) I := by
        unfold opL
        apply List.filter_congr
        intro j hj
        have hk : j ≠ k := by
          have := (List.mem_range'_1.mp hj).1
          omega
        unfold inB
        simp [iu_ap, hk]
      have e3 : opL q (m + 1) k I = k :: opL q m (k + 1) I := by
        unfold opL
        rw [List.range'_succ, List.filter_cons, if_pos (by unfold inB; exact decide_eq_true h)]
      obtain ⟨i1, i2⟩ := opM_eq q m (k + 1) (iu (iu I 71 k 3) 47 5 (I 47 5 + I 75 k)) (c + 1)
      rw [e1, e3]
      rw [e2] at i1 i2
      constructor
      · rw [i1, List.length_cons, nI_s, Int32.add_assoc, Int32.add_comm 1]
      · intro a j
        rw [i2 a j]
        have e76 : iu (iu I 71 k 3) 47 5 (I 47 5 + I 75 k) 75 = I 75 := rfl
        have e48 : iu (iu I 71 k 3) 47 5 (I 47 5 + I 75 k) 47 5 = I 47 5 + I 75 k := rfl
        rw [e76, e48]
        show _ = if a = 71 ∧ j ∈ k :: opL q m (k + 1) I then 3 else if a = 47 ∧ j = 5 then I 47 5 + (I 75 k + sW (I 75) (opL q m (k + 1) I)) else I a j
        rw [← Int32.add_assoc]
        by_cases ha : a = 71
        · subst ha
          by_cases hj : j = k
          · subst hj
            by_cases hl : j ∈ opL q m (j + 1) I
            · simp [hl]
            · simp [hl, iu_ap]
          · by_cases hl : j ∈ opL q m (k + 1) I
            · simp [hl]
            · simp [hl, hj, iu_ap]
        · by_cases h5 : a = 47 ∧ j = 5
          · simp [h5.1, h5.2]
          · rw [if_neg (fun z => ha z.1), if_neg h5, if_neg (fun z => ha z.1), if_neg h5, iu_ap, if_neg h5, iu_ap, if_neg (fun z => ha z.1)]
    · have e1 : opM (nI q) (m + 1) k I c = opM (nI q) m (k + 1) I c := by
        show (if I 71 k = 0 ∧ I 72 k = nI q then _ else _) = _
        rw [if_neg h]
      have e3 : opL q (m + 1) k I = opL q m (k + 1) I := by
        unfold opL
        rw [List.range'_succ, List.filter_cons, if_neg (by unfold inB; simpa using h)]
      rw [e1, e3]
      exact opM_eq q m (k + 1) I c
section RelO
variable {sh : List Sh} {I : IM} {J : JM} {R : RM} {c : Nat}
theorem pl_ge {n b : Nat} {pa : Nat → Nat} (h : RPc sh I R n pa) {p : Nat} (hp : p ∈ pl I pa n b) : 90 ≤ p := by
  unfold pl at hp
  obtain ⟨k, hk, rfl⟩ := List.mem_map.mp hp
  exact (h.1 k (List.mem_range.mp (List.mem_filter.mp hk).1)).2.2.1
theorem pl_mem {n b k : Nat} {pa : Nat → Nat} (h : RPc sh I R n pa) (hk : k < n) : pa k ∈ pl I pa n b ↔ inB I b k = true := by
  unfold pl
  rw [List.mem_map]
  constructor
  · rintro ⟨j, hj, e⟩
    have q := List.mem_filter.mp hj
    have := h.2.1 j k (List.mem_range.mp q.1) hk e
    rw [← this]; exact q.2
  · intro q
    exact ⟨k, List.mem_filter.mpr ⟨List.mem_range.mpr hk, q⟩, rfl⟩
theorem r_open (h : Rel sh I J R c) {n : Nat} {pa : Nat → Nat} (hnc : n ≤ c) (h14 : I 0 14 = nI n) (h27 : I 47 27 = nI n) (hp : RPc sh I R n pa) (y : Int32) : openRm (openI I (pl I pa n (ix y)) y) n y = openR I y ∧ Rel sh (openIm (openI I (pl I pa n (ix y)) y) n y) J R (c + 1) := by
  by_cases hw : wI y 0 2 = 0
  · simp only [openR, openRm, openI, openIm, if_pos hw]
    exact ⟨trivial, h.mono⟩
  obtain ⟨ey, ly⟩ := ix_le (n := 2) hw rfl (by decide)
  generalize hq : ix y = q at ey ly
  have hq3 : q < 3 := by omega
  have hy : wI (nI q) 0 2 = 0 ↔ False := by rw [← ey]; exact ⟨hw, fun z => z.elim⟩
  have hl := h.st.len
  generalize hlq : pl I pa n q = l
  have hge : ∀ p, p ∈ l → 90 ≤ p := fun p z => pl_ge (b := q) hp (by rw [hlq]; exact z)
  obtain ⟨⟨b1, b2, b3, b4⟩, b5⟩ := hp.2.2.1 q hq3
  rw [hlq] at b1
  generalize hI1 : openI I l y = I1
  have eI1 : I1 = iu (iu (brkL l I 0).2 (31 + 2 * q) 1 0) 0 12 (I 0 12 + (brkL l I 0).1) := by rw [← hI1]; unfold openI; rw [if_neg hw, hq]
  have o1 : ∀ a, a ≠ 0 → a ≠ 31 + 2 * q → a < 90 → I1 a = I a := fun a g1 g2 g3 => by
    rw [eI1, iu_ne a g1, iu_ne a g2, brkL_o (fun z => by have := hge a z; omega)]
  have eL : opL q n 0 I1 = (List.range n).filter (inB I q) := by
    unfold opL
    rw [List.range_eq_range']
    apply List.filter_congr
    intro j _
    unfold inB
    rw [o1 71 (by decide) (by omega) (by decide), o1 72 (by decide) (by omega) (by decide)]
  generalize hL : (List.range n).filter (inB I q) = L at eL
  have hlL : l = L.map pa := by rw [← hlq, ← hL]; rfl
  have mL : ∀ j, j ∈ L ↔ j < n ∧ inB I q j = true := fun j => by rw [← hL, List.mem_filter, List.mem_range]
  obtain ⟨i1, i2⟩ := opM_eq q n 0 I1 0
  rw [eL] at i1 i2
  have e76 : I1 75 = I 75 := o1 75 (by decide) (by omega) (by decide)
  have e48 : I1 47 = I 47 := o1 47 (by decide) (by omega) (by decide)
  have esW : sW (fun p => I p 4) l = sW (I 75) L := by
    rw [hlL]
    exact sW_map L (fun j hj => (hp.1 j ((mL j).mp hj).1).2.2.2.2.2.2.2.1.symm)
  constructor
  · unfold openRm openR
    rw [if_neg hw, if_neg hw, hq, ey, i1, b1, hlL, List.length_map, Int32.zero_add]
  generalize hI2 : openIm I1 n y = I2
  have eI2 : I2 = iu (opM (nI q) n 0 I1 0).1 76 q 0 := by rw [← hI2]; unfold openIm; rw [if_neg hw, hq, ey]
  have g77 : ∀ j, I2 76 j = if j = q then 0 else I 76 j := fun j => by
    rw [eI2, iu_ap]
    by_cases e : j = q
    · simp [e]
    · rw [if_neg (fun z => e z.2), if_neg e, i2, if_neg (fun z => absurd z.1 (by decide)), if_neg (fun z => absurd z.1 (by decide)), o1 76 (by decide) (by omega) (by decide)]
  have g72 : ∀ j, I2 71 j = if j ∈ L then 3 else I 71 j := fun j => by
    rw [eI2, iu_ap, if_neg (fun z => absurd z.1 (by decide)), i2]
    by_cases e : j ∈ L
    · simp [e]
    · rw [if_neg (fun z => e z.2), if_neg (fun z => absurd z.1 (by decide)), if_neg e, o1 71 (by decide) (by omega) (by decide)]
  have g48 : ∀ j, j ≠ 5 → I2 47 j = I 47 j := fun j hj => by
    rw [eI2, iu_ap, if_neg (fun z => absurd z.1 (by decide)), i2, if_neg (fun z => absurd z.1 (by decide)), if_neg (fun z => hj z.2), e48]
  have g485 : I2 47 5 = I 47 5 + sW (I 75) L := by
    rw [eI2, iu_ap, if_neg (fun z => absurd z.1 (by decide)), i2, if_neg (fun z => absurd z.1 (by decide)), if_pos ⟨rfl, rfl⟩, e76, e48]
  have gI1 : ∀ a, a ≠ 47 → a ≠ 71 → a ≠ 76 → I2 a = I1 a := fun a k1 k2 k3 => by
    funext j
    rw [eI2, iu_ap, if_neg (fun z => k3 z.1), i2, if_neg (fun z => k2 z.1), if_neg (fun z => k1 z.1)]
  have go : ∀ a, a ≠ 0 → a ≠ 31 + 2 * q → a ≠ 47 → a ≠ 71 → a ≠ 76 → a < 90 → I2 a = I a := fun a k0 kq k1 k2 k3 k4 => (gI1 a k1 k2 k3).trans (o1 a k0 kq k4)
  have g0 : ∀ j, j ≠ 12 → I2 0 j = I 0 j := fun j hj => by
    rw [gI1 0 (by decide) (by decide) (by decide), eI1, iu_k hj, iu_ne 0 (by omega), brkL_o (fun z => by have := hge 0 z; omega)]
  have g012 : I2 0 12 = I 0 12 + sW (I 75) L := by
    rw [gI1 0 (by decide) (by decide) (by decide), eI1, iu_same, brkL_1, esW, Int32.zero_add]
  have gb : I2 (31 + 2 * q) 1 = 0 := by
    rw [gI1 _ (by omega) (by omega) (by omega), eI1, iu_o (by omega), iu_same]
  have gp : ∀ p j, 90 ≤ p → I2 p j = if p ∈ l ∧ j = 6 then 3 else I p j := fun p j hp91 => by
    rw [gI1 p (by omega) (by omega) (by omega), eI1, iu_ne p (by omega), iu_ne p (by omega), brkL_2]
  have hB : Blank sh I2 J R := h.bl.of (fun a ha => by
    funext j
    rw [gp a j (by omega), if_neg]
    rintro ⟨z, _⟩
    have := sh_lt (b4 a (by rw [hlq]; exact z))
    omega) (fun _ _ => rfl) (fun _ _ => rfl)
  refine ⟨⟨h.st, h.wp, hB⟩, ?_, h.rws.fr (fun a ha => go a (by omega) (by omega) (by omega) (by omega) (by omega) (by omega)), h.kd.fr (fun a k1 k2 => go a (by omega) (by omega) (by omega) (by omega) (by omega) (by omega)) (fun a k1 k2 => go a (by omega) (by omega) (by omega) (by omega) (by omega) (by omega)), h.pots.fr (fun a k1 k2 => go a (by omega) (by omega) (by omega) (by omega) (by omega) (by omega)) (fun a k1 k2 => go a (by omega) (by omega) (by omega) (by omega) (by omega) (by omega)) (by rw [g0 11 (by decide)]; exact Nat.le_refl _), h.tx.fr (by rw [go 8 (by omega) (by omega) (by omega) (by omega) (by omega) (by omega)]) (g48 39 (by decide)) (by rw [go 14 (by omega) (by omega) (by omega) (by omega) (by omega) (by omega)]) (g48 42 (by decide)) (fun a ha => go a (by omega) (by omega) (by omega) (by omega) (by omega) (by omega)), h.shf.fr (fun a ha => go a (by omega) (by omega) (by omega) (by omega) (by omega) (by omega)), h.mv.fr (by rw [go 42 (by omega) (by omega) (by omega) (by omega) (by omega) (by omega)]) (g48 56 (by decide)) (fun a ha => go a (by omega) (by omega) (by omega) (by omega) (by omega) (by omega)), n, pa, by omega, (g0 14 (by decide)).trans h14, (g48 27 (by decide)).trans h27, fun k hk => ?_, hp.2.1, fun b hb => ?_, fun k hk hz => ?_⟩
  · have e1 : I2 1 = I 1 := go 1 (by omega) (by omega) (by omega) (by omega) (by omega) (by omega)
    have e4 : I2 4 = I 4 := go 4 (by omega) (by omega) (by omega) (by omega) (by omega) (by omega)
    unfold RScal
    rw [g0 11 (by decide), g0 13 (by decide), g48 0 (by decide), g48 1 (by decide), g48 2 (by decide), g48 3 (by decide), g48 4 (by decide), g48 8 (by decide), g48 12 (by decide), e1, e4, g485, g012]
    exact ⟨h.sc.1, h.sc.2.1, h.sc.2.2.1, h.sc.2.2.2.1, h.sc.2.2.2.2.1, by rw [h.sc.2.2.2.2.2.1], h.sc.2.2.2.2.2.2⟩
  · obtain ⟨p1, p2, p3, f0, f1, f2, f3, f4, f5, f6, f7, f8⟩ := hp.1 k hk
    have hm : pa k ∈ l ↔ k ∈ L := by
      rw [← hlq, pl_mem hp hk, mL]
      exact ⟨fun z => ⟨hk, z⟩, fun z => z.2⟩
    have g6 : ∀ j, j ≠ 6 → I2 (pa k) j = I (pa k) j := fun j hj => by rw [gp _ _ p3, if_neg (fun z => hj z.2)]
    have gr : ∀ a, 67 ≤ a → a < 76 → a ≠ 71 → I2 a = I a := fun a k1 k2 k3 => go a (by omega) (by omega) (by omega) k3 (by omega) (by omega)
    refine ⟨p1, p2, p3, ?_, ?_, ?_, ?_, ?_, ?_, ?_, ?_, ?_⟩
    · rw [gr 67 (by decide) (by decide) (by decide), g6 0 (by decide)]; exact f0
    · rw [gr 68 (by decide) (by decide) (by decide), g6 1 (by decide)]; exact f1
    · rw [gr 69 (by decide) (by decide) (by decide), g6 2 (by decide)]; exact f2
    · rw [gr 70 (by decide) (by decide) (by decide), g6 3 (by decide)]; exact f3
    · rw [gr 75 (by decide) (by decide) (by decide), g6 4 (by decide)]; exact f4
    · rw [gr 74 (by decide) (by decide) (by decide), g6 5 (by decide)]; exact f5
    · rw [g72, gp _ _ p3]
      by_cases e : k ∈ L
      · rw [if_pos e, if_pos ⟨hm.mpr e, rfl⟩]
      · rw [if_neg e, if_neg (fun z => e (hm.mp z.1))]; exact f6
    · rw [gr 72 (by decide) (by decide) (by decide), g6 7 (by decide)]; exact f7
    · rw [gr 73 (by decide) (by decide) (by decide), g6 8 (by decide)]; exact f8
  · have g73 : I2 72 = I 72 := go 72 (by omega) (by omega) (by omega) (by omega) (by omega) (by omega)
    by_cases e : b = q
    · subst e
      have ez : pl I2 pa n b = [] := by
        unfold pl
        rw [List.map_eq_nil_iff, List.filter_eq_nil_iff]
        intro k hk
        unfold inB
        rw [g72, g73]
        by_cases ek : k ∈ L
        · rw [if_pos ek]; simp
        · rw [if_neg ek]
          intro z
          exact ek ((mL k).mpr ⟨List.mem_range.mp hk, z⟩)
      rw [ez]
      exact ⟨⟨gb, Nat.zero_le _, fun j hj => absurd hj (Nat.not_lt_zero _), fun p z => absurd z List.not_mem_nil⟩, by rw [g77, if_pos rfl, gb]⟩
    · have ez : pl I2 pa n b = pl I pa n b := by
        unfold pl
        congr 1
        apply List.filter_congr
        intro k hk
        unfold inB
        rw [g72, g73]
        by_cases ek : k ∈ L
        · rw [if_pos ek]
          have z := ((mL k).mp ek).2
          unfold inB at z
          have z2 := (of_decide_eq_true z).2
          have nb : ¬ I 72 k = nI b := by
            rw [z2]
            intro w
            exact e ((nI_eq (by omega) (by omega)).mp w).symm
          simp [nb]
        · rw [if_neg ek]
      obtain ⟨c1, c2⟩ := hp.2.2.1 b hb
      have gB : I2 (31 + 2 * b) = I (31 + 2 * b) := go _ (by omega) (by omega) (by omega) (by omega) (by omega) (by omega)
      rw [ez]
      refine ⟨c1.mv (by rw [gB]) rfl, ?_⟩
      rw [g77, if_neg e, gB]
      exact c2
  · rw [g72] at hz
    by_cases ek : k ∈ L
    · rw [if_pos ek] at hz; exact absurd hz (by decide)
    · rw [if_neg ek] at hz
      rw [go 72 (by omega) (by omega) (by omega) (by omega) (by omega) (by omega)]
      exact hp.2.2.2 k hk hz
end RelO
