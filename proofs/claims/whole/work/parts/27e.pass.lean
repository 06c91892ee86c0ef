/-! ===== the relation kept: pass ===== -/
section Hr2
variable {Ic Im : IM} {np n v D : Nat} {pa : Nat → Nat} {l0 l1 l2 : List Nat}
theorem plm {b k : Nat} (hinj : ∀ j k, j < np → k < np → pa j = pa k → j = k) (hk : k < np) : pa k ∈ pl Im pa np b ↔ inB Im b k = true := by
  unfold pl
  rw [List.mem_map]
  constructor
  · rintro ⟨j, hj, e⟩
    have q := List.mem_filter.mp hj
    have := hinj j k (List.mem_range.mp q.1) hk e
    rw [← this]; exact q.2
  · intro q
    exact ⟨k, List.mem_filter.mpr ⟨List.mem_range.mpr hk, q⟩, rfl⟩
theorem pl_mem' {b p : Nat} (h : p ∈ pl Im pa np b) : ∃ k, k < np ∧ inB Im b k = true ∧ pa k = p := by
  unfold pl at h
  obtain ⟨k, hk, e⟩ := List.mem_map.mp h
  have q := List.mem_filter.mp hk
  exact ⟨k, List.mem_range.mp q.1, q.2, e⟩
theorem pl_nodup {b : Nat} (hinj : ∀ j k, j < np → k < np → pa j = pa k → j = k) : (pl Im pa np b).Nodup := by
  unfold pl
  rw [List.Nodup, List.pairwise_map]
  have hn : ((List.range np).filter (inB Im b)).Nodup := List.Pairwise.filter _ List.nodup_range
  refine List.Pairwise.imp_of_mem ?_ hn
  intro a b' ha hb hne e
  exact hne (hinj a b' (List.mem_range.mp (List.mem_filter.mp ha).1) (List.mem_range.mp (List.mem_filter.mp hb).1) e)
theorem inB_one {b b' k : Nat} (h1 : inB Im b k = true) (h2 : inB Im b' k = true) (hb : b < 3) (hb' : b' < 3) : b = b' := by
  unfold inB at h1 h2
  have a := (of_decide_eq_true h1).2
  have c := (of_decide_eq_true h2).2
  rw [a] at c
  exact (nI_eq (by omega) (by omega)).mp c
theorem pl_disj {b b' p : Nat} (hinj : ∀ j k, j < np → k < np → pa j = pa k → j = k) (hb : b < 3) (hb' : b' < 3) (hne : b ≠ b') (h1 : p ∈ pl Im pa np b) (h2 : p ∈ pl Im pa np b') : False := by
  obtain ⟨k, hk, i1, rfl⟩ := pl_mem' h1
  have i2 := (plm (b := b') hinj hk).mp h2
  exact hne (inB_one i1 i2 hb hb')
def bays3 (X : IM) (l0 l1 l2 : List Nat) : IM := coolB (coolB (coolB X 31 l0) 33 l1) 35 l2
theorem coolB_val {X : IM} {a p : Nat} {l : List Nat} (hn : l.Nodup) (hp : p ≠ a) (j : Nat) : coolB X a l p j = if p ∈ l then cF X p j else X p j := by
  unfold coolB
  rw [iu_o hp]
  exact (coolL_val l X hn).1 p j
theorem cF_c {X Y : IM} {p : Nat} (h : Y p = X p) (j : Nat) : cF Y p j = cF X p j := by unfold cF; rw [h]
theorem bays_eq (h : HQ Ic Im np pa l0 l1 l2) (hinj : ∀ j k, j < np → k < np → pa j = pa k → j = k) (hpa : ∀ k, k < np → 90 ≤ pa k) :
    HQ (bays3 Ic l0 l1 l2) (coolM np 0 Im) np pa (coolL l0 Ic).1 (coolL l1 (coolB Ic 31 l0)).1 (coolL l2 (coolB (coolB Ic 31 l0) 33 l1)).1 ∧ (∀ a, (∀ k, k < np → a ≠ pa k) → a ≠ 31 → a ≠ 33 → a ≠ 35 → bays3 Ic l0 l1 l2 a = Ic a) := by
  obtain ⟨q1, ⟨rfl, rfl, rfl⟩, q3, q4⟩ := h
  have d : ∀ b, (pl Im pa np b).Nodup := fun b => pl_nodup hinj
  have ge : ∀ b p, p ∈ pl Im pa np b → 90 ≤ p := fun b p hp => by
    obtain ⟨k, hk, _, rfl⟩ := pl_mem' hp
    exact hpa k hk
  have dj : ∀ b b' p, b < 3 → b' < 3 → b ≠ b' → p ∈ pl Im pa np b → p ∉ pl Im pa np b' := fun b b' p g1 g2 g3 g4 g5 => pl_disj hinj g1 g2 g3 g4 g5
  have x1 : ∀ p, p ∉ pl Im pa np 0 → p ≠ 31 → coolB Ic 31 (pl Im pa np 0) p = Ic p := fun p g1 g2 => coolB_o g2 g1
  have x2 : ∀ p, p ∉ pl Im pa np 0 → p ∉ pl Im pa np 1 → p ≠ 31 → p ≠ 33 → coolB (coolB Ic 31 (pl Im pa np 0)) 33 (pl Im pa np 1) p = Ic p := fun p g1 g2 g3 g4 => (coolB_o g4 g2).trans (x1 p g1 g3)
  have xv : ∀ p j, 90 ≤ p → bays3 Ic (pl Im pa np 0) (pl Im pa np 1) (pl Im pa np 2) p j = if p ∈ pl Im pa np 0 ∨ p ∈ pl Im pa np 1 ∨ p ∈ pl Im pa np 2 then cF Ic p j else Ic p j := by
    intro p j hp
    unfold bays3
    rw [coolB_val (d 2) (by omega)]
    by_cases m2 : p ∈ pl Im pa np 2
    · have n0 := dj 2 0 p (by decide) (by decide) (by decide) m2
      have n1 := dj 2 1 p (by decide) (by decide) (by decide) m2
      rw [if_pos m2, if_pos (Or.inr (Or.inr m2)), cF_c (x2 p n0 n1 (by omega) (by omega))]
    · rw [if_neg m2, coolB_val (d 1) (by omega)]
      by_cases m1 : p ∈ pl Im pa np 1
      · have n0 := dj 1 0 p (by decide) (by decide) (by decide) m1
        rw [if_pos m1, if_pos (Or.inr (Or.inl m1)), cF_c (x1 p n0 (by omega))]
      · rw [if_neg m1, coolB_val (d 0) (by omega)]
        by_cases m0 : p ∈ pl Im pa np 0
        · rw [if_pos m0, if_pos (Or.inl m0)]
        · rw [if_neg m0, if_neg]
          rintro (z | z | z)
          · exact m0 z
          · exact m1 z
          · exact m2 z
  have l1' : (coolL (pl Im pa np 1) (coolB Ic 31 (pl Im pa np 0))).1 = (pl Im pa np 1).filter (fun p => decide (Ic p 8 + 1 < Ic p 5)) := by
    rw [(coolL_val _ _ (d 1)).2]
    apply List.filter_congr
    intro p hp
    rw [x1 p (dj 1 0 p (by decide) (by decide) (by decide) hp) (by have := ge 1 p hp; omega)]
  have l2' : (coolL (pl Im pa np 2) (coolB (coolB Ic 31 (pl Im pa np 0)) 33 (pl Im pa np 1))).1 = (pl Im pa np 2).filter (fun p => decide (Ic p 8 + 1 < Ic p 5)) := by
    rw [(coolL_val _ _ (d 2)).2]
    apply List.filter_congr
    intro p hp
    have := ge 2 p hp
    rw [x2 p (dj 2 0 p (by decide) (by decide) (by decide) hp) (dj 2 1 p (by decide) (by decide) (by decide) hp) (by omega) (by omega)]
  have l0' : (coolL (pl Im pa np 0) Ic).1 = (pl Im pa np 0).filter (fun p => decide (Ic p 8 + 1 < Ic p 5)) := (coolL_val _ _ (d 0)).2
  have m72 : ∀ k, k < np → coolM np 0 Im 71 k = if Im 71 k = 0 ∧ Im 74 k ≤ Im 73 k + 1 then 1 else Im 71 k := fun k hk => by
    rw [(coolM_v np 0 Im k).1]
    have : 0 ≤ k ∧ k < 0 + np := by omega
    simp only [this, true_and]
  have m74 : ∀ k, k < np → coolM np 0 Im 73 k = if Im 71 k = 0 then Im 73 k + 1 else Im 73 k := fun k hk => by
    rw [(coolM_v np 0 Im k).2]
    have : 0 ≤ k ∧ k < 0 + np := by omega
    simp only [this, true_and]
  have mo : ∀ a, a ≠ 71 → a ≠ 73 → a ≠ 76 → coolM np 0 Im a = Im a := fun a g1 g2 g3 => coolM_o g1 g2 g3 np 0 Im
  have lf : ∀ b, (pl Im pa np b).filter (fun p => decide (Ic p 8 + 1 < Ic p 5)) = pl (coolM np 0 Im) pa np b := by
    intro b
    unfold pl
    rw [List.filter_map, List.filter_filter]
    congr 1
    apply List.filter_congr
    intro k hk
    have hk' := List.mem_range.mp hk
    obtain ⟨f0, f1, f2, f3, f4, f5, f6, f7, f8⟩ := q1 k hk'
    show (decide (Ic (pa k) 8 + 1 < Ic (pa k) 5) && inB Im b k) = inB (coolM np 0 Im) b k
    rw [← f5, ← f8]
    unfold inB
    rw [m72 k hk', mo 72 (by decide) (by decide) (by decide), Bool.eq_iff_iff]
    simp only [Bool.and_eq_true, decide_eq_true_eq]
    constructor
    · rintro ⟨g1, g2, g3⟩
      rw [if_neg (fun z => Int32.not_le.mpr g1 z.2)]
      exact ⟨g2, g3⟩
    · rintro ⟨g1, g3⟩
      by_cases z : Im 71 k = 0 ∧ Im 74 k ≤ Im 73 k + 1
      · rw [if_pos z] at g1; exact absurd g1 (by decide)
      · rw [if_neg z] at g1
        exact ⟨Int32.not_le.mp (fun w => z ⟨g1, w⟩), g1, g3⟩
  have hLen : LenOK Im np := ⟨fun b hb => by rw [q3 b hb]; unfold pl; rw [List.length_map], q4⟩
  have hLen2 := LenOK.all np 0 Im (by omega) hLen
  refine ⟨⟨fun k hk => ?_, ⟨l0'.trans (lf 0), l1'.trans (lf 1), l2'.trans (lf 2)⟩, fun b hb => ?_, hLen2.2⟩, fun a g1 g2 g3 g4 => ?_⟩
  · obtain ⟨f0, f1, f2, f3, f4, f5, f6, f7, f8⟩ := q1 k hk
    have p91 := hpa k hk
    have hmem : (pa k ∈ pl Im pa np 0 ∨ pa k ∈ pl Im pa np 1 ∨ pa k ∈ pl Im pa np 2) ↔ Im 71 k = 0 := by
      rw [plm hinj hk, plm hinj hk, plm hinj hk]
      constructor
      · rintro (z | z | z) <;> exact (of_decide_eq_true z).1
      · intro z
        obtain ⟨b, hb, eb⟩ := q4 k hk z
        rcases (show b = 0 ∨ b = 1 ∨ b = 2 by omega) with rfl | rfl | rfl
        · exact Or.inl (decide_eq_true ⟨z, eb⟩)
        · exact Or.inr (Or.inl (decide_eq_true ⟨z, eb⟩))
        · exact Or.inr (Or.inr (decide_eq_true ⟨z, eb⟩))
    have xk : ∀ j, j ≠ 8 → j ≠ 6 → bays3 Ic (pl Im pa np 0) (pl Im pa np 1) (pl Im pa np 2) (pa k) j = Ic (pa k) j := fun j g1 g2 => by
      rw [xv _ _ p91]
      split
      · unfold cF; rw [if_neg g1, if_neg (fun z => g2 z.1)]
      · rfl
    refine ⟨?_, ?_, ?_, ?_, ?_, ?_, ?_, ?_, ?_⟩
    · rw [mo 67 (by decide) (by decide) (by decide), xk 0 (by decide) (by decide)]; exact f0
    · rw [mo 68 (by decide) (by decide) (by decide), xk 1 (by decide) (by decide)]; exact f1
    · rw [mo 69 (by decide) (by decide) (by decide), xk 2 (by decide) (by decide)]; exact f2
    · rw [mo 70 (by decide) (by decide) (by decide), xk 3 (by decide) (by decide)]; exact f3
    · rw [mo 75 (by decide) (by decide) (by decide), xk 4 (by decide) (by decide)]; exact f4
    · rw [mo 74 (by decide) (by decide) (by decide), xk 5 (by decide) (by decide)]; exact f5
    · rw [m72 k hk, xv _ _ p91]
      by_cases z : Im 71 k = 0
      · rw [if_pos (hmem.mpr z)]
        have e6 : cF Ic (pa k) 6 = if ¬ Ic (pa k) 8 + 1 < Ic (pa k) 5 then 1 else Ic (pa k) 6 := by unfold cF; simp
        rw [e6, ← f5, ← f8, ← f6]
        by_cases w : Im 74 k ≤ Im 73 k + 1
        · rw [if_pos ⟨z, w⟩, if_pos (fun y => Int32.not_le.mpr y w)]
        · rw [if_neg (fun y => w y.2), if_neg (fun y => y (Int32.not_le.mp w))]
      · rw [if_neg (fun y => z y.1), if_neg (fun y => z (hmem.mp y))]; exact f6
    · rw [mo 72 (by decide) (by decide) (by decide), xk 7 (by decide) (by decide)]; exact f7
    · rw [m74 k hk, xv _ _ p91]
      by_cases z : Im 71 k = 0
      · rw [if_pos z, if_pos (hmem.mpr z)]
        unfold cF
        rw [if_pos rfl, f8]
      · rw [if_neg z, if_neg (fun y => z (hmem.mp y))]; exact f8
  · rw [hLen2.1 b hb]; unfold pl; rw [List.length_map]
  · have nm : ∀ b, a ∉ pl Im pa np b := fun b z => by
      obtain ⟨k, hk, _, e⟩ := pl_mem' z
      exact g1 k hk e.symm
    unfold bays3
    rw [coolB_o g4 (nm 2), coolB_o g3 (nm 1), coolB_o g2 (nm 0)]
/-- the end of the hour -/
theorem hourT_v {I : IM} (h : I 0 11 = nI v) : hourT I 0 11 = nI (v + 1) ∧ (∀ k, k ≠ 11 → hourT I 0 k = I 0 k) ∧ (∀ j, hourT I 37 j = if j < 4 then 60 else I 37 j) ∧ ∀ j, hourT I 3 j = if (nI v + 1) - (nI v + 1) / 500 * 500 = 0 ∧ j < 5 then 0 else I 3 j := by
  unfold hourT
  rw [h]
  split
  · rename_i g
    refine ⟨?_, fun k hk => ?_, fun j => ?_, fun j => ?_⟩
    · show nI v + 1 = _
      rw [nI_1]
    · show iu I 0 11 (nI v + 1) 0 k = _
      rw [iu_k hk]
    · show (if 37 = 37 ∧ j < 4 then 60 else I 37 j) = _
      simp
    · show (if 3 = 3 ∧ j < 5 then 0 else I 3 j) = _
      simp [g]
  · rename_i g
    refine ⟨?_, fun k hk => ?_, fun j => ?_, fun j => ?_⟩
    · show nI v + 1 = _
      rw [nI_1]
    · show iu I 0 11 (nI v + 1) 0 k = _
      rw [iu_k hk]
    · show (if 37 = 37 ∧ j < 4 then 60 else I 37 j) = _
      simp
    · rw [if_neg (fun z => g z.1)]; rfl
theorem hourEm_v {I : IM} (h : I 47 0 = nI v) : hourEm I 47 0 = nI (v + 1) ∧ (∀ j, hourEm I 66 j = if j < 4 then 60 else I 66 j) ∧ ∀ j, hourEm I 49 j = if (nI v + 1) - (nI v + 1) / 500 * 500 = 0 ∧ j < 5 then 0 else I 49 j := by
  have c4 : ∀ (j : Nat) (x : Int32), (if j = 3 then (60 : Int32) else if j = 2 then 60 else if j = 1 then 60 else if j = 0 then 60 else x) = if j < 4 then 60 else x := by
    intro j x
    by_cases g : j < 4
    · rcases (show j = 0 ∨ j = 1 ∨ j = 2 ∨ j = 3 by omega) with rfl | rfl | rfl | rfl <;> rfl
    · rw [if_neg (by omega), if_neg (by omega), if_neg (by omega), if_neg (by omega), if_neg g]
  have c5 : ∀ (j : Nat) (x : Int32), (if j = 4 then (0 : Int32) else if j = 3 then 0 else if j = 2 then 0 else if j = 1 then 0 else if j = 0 then 0 else x) = if j < 5 then 0 else x := by
    intro j x
    by_cases g : j < 5
    · rcases (show j = 0 ∨ j = 1 ∨ j = 2 ∨ j = 3 ∨ j = 4 by omega) with rfl | rfl | rfl | rfl | rfl <;> rfl
    · rw [if_neg (by omega), if_neg (by omega), if_neg (by omega), if_neg (by omega), if_neg (by omega), if_neg g]
  unfold hourEm
  rw [h]
  split
  · rename_i g
    refine ⟨?_, fun j => ?_, fun j => ?_⟩
    · show nI v + 1 = _
      rw [nI_1]
    · rw [← c4 j]
      simp [iu_ap]
    · rw [show (if (nI v + 1) - (nI v + 1) / 500 * 500 = 0 ∧ j < 5 then (0 : Int32) else I 49 j) = if j < 5 then 0 else I 49 j by simp [g], ← c5 j]
      simp [iu_ap]
  · rename_i g
    refine ⟨?_, fun j => ?_, fun j => ?_⟩
    · show nI v + 1 = _
      rw [nI_1]
    · rw [← c4 j]
      simp [iu_ap]
    · rw [if_neg (fun z => g z.1)]
      simp [iu_ap]
/-- one hour -/
def HR (s : CS) (Im : IM) (np : Nat) (pa : Nat → Nat) (v D : Nat) : Prop := HS s.1 Im v ∧ HW s.1 Im ∧ (∀ k, k < 6 → HP s.1 Im D k) ∧ HQ s.1 Im np pa s.2.1 s.2.2.1 s.2.2.2
def touchC (a : Nat) : Prop := a = 0 ∨ a = 1 ∨ a = 3 ∨ a = 4 ∨ (18 ≤ a ∧ a ≤ 23) ∨ a = 31 ∨ a = 33 ∨ a = 35 ∨ a = 37
def CK (np : Nat) (pa : Nat → Nat) (s s' : CS) : Prop := (∀ a, (∀ k, k < np → a ≠ pa k) → ¬ touchC a → s'.1 a = s.1 a) ∧ (∀ k, k ≠ 11 → s'.1 0 k = s.1 0 k) ∧ (∀ k, k ≠ 3 → s'.1 1 k = s.1 1 k) ∧ (∀ k, k ≠ 5 → s'.1 4 k = s.1 4 k)
theorem HR.hour {s : CS} (h : HR s Im np pa v D) (hinj : ∀ j k, j < np → k < np → pa j = pa k → j = k) (hpa : ∀ k, k < np → 90 ≤ pa k) (hD : D < 2 ^ 30) : HR (stepC n s) (hourM n np Im) np pa (v + 1) (D + 3) ∧ CK np pa s (stepC n s) := by
  obtain ⟨h1, h2, h3, h4⟩ := h
  have hlt : ∀ a, a < 90 → ∀ k, k < np → a ≠ pa k := fun a ha k hk e => by have := hpa k hk; omega
  -- heat
  have f_o : ∀ a, a ≠ 1 → a ≠ 4 → hourF s.1 n a = s.1 a := fun a g1 g2 => by unfold hourF; rw [iu_ne a g2, iu_ne a g1]
  have m_o : ∀ a, a ≠ 47 → hourHm Im n a = Im a := fun a g1 => by unfold hourHm; rw [iu_ne a g1, iu_ne a g1]
  have a1 := heat_eq (n := n) h1 h2
  have a2 : HW (hourF s.1 n) (hourHm Im n) := h2.fr (fun a ha => f_o a (by omega) (by omega)) (fun a ha => m_o a (by omega))
  have a3 : ∀ k, k < 6 → HP (hourF s.1 n) (hourHm Im n) D k := fun k hk => (h3 k hk).fr (f_o _ (by omega) (by omega)) (fun a g1 g2 => m_o a (by omega))
  have a4 : HQ (hourF s.1 n) (hourHm Im n) np pa s.2.1 s.2.2.1 s.2.2.2 := h4.fr hpa (fun a ha => f_o a (by omega) (by omega)) (fun a g1 g2 => m_o a (by omega))
  -- pots
  have p_o : ∀ a, a < 18 ∨ 23 < a → hour0 s.1 n a = hourF s.1 n a := fun a ha => hourP_o ha
  have q_o : ∀ a, a ≠ 55 → potsM (hourHm Im n) a = hourHm Im n a := fun a ha => potsM_o ha
  have b1 : HS (hour0 s.1 n) (potsM (hourHm Im n)) v := a1.fr (by rw [p_o 0 (by decide)]) (by rw [p_o 1 (by decide)]) (p_o 4 (by decide)) (q_o 47 (by decide))
  have b2 : HW (hour0 s.1 n) (potsM (hourHm Im n)) := a2.fr (fun a ha => p_o a (by omega)) (fun a ha => q_o a (by omega))
  have b3 : ∀ k, k < 6 → HP (hour0 s.1 n) (potsM (hourHm Im n)) (D + 3) k := fun k hk => pots_eq (a3 k hk) hk a1.2.2.2.2 hD
  have b4 : HQ (hour0 s.1 n) (potsM (hourHm Im n)) np pa s.2.1 s.2.2.1 s.2.2.2 := a4.fr hpa (fun a ha => p_o a (by omega)) (fun a g1 g2 => q_o a (by omega))
  -- bays
  obtain ⟨c4, c_p⟩ := bays_eq b4 hinj hpa
  have c_o : ∀ a, a < 90 → a ≠ 31 → a ≠ 33 → a ≠ 35 → bays3 (hour0 s.1 n) s.2.1 s.2.2.1 s.2.2.2 a = hour0 s.1 n a := fun a ha => c_p a (hlt a ha)
  have d_o : ∀ a, a ≠ 71 → a ≠ 73 → a ≠ 76 → coolM np 0 (potsM (hourHm Im n)) a = potsM (hourHm Im n) a := fun a g1 g2 g3 => coolM_o g1 g2 g3 np 0 _
  have c1 : HS (bays3 (hour0 s.1 n) s.2.1 s.2.2.1 s.2.2.2) (coolM np 0 (potsM (hourHm Im n))) v := b1.fr (by rw [c_o 0 (by decide) (by decide) (by decide) (by decide)]) (by rw [c_o 1 (by decide) (by decide) (by decide) (by decide)]) (c_o 4 (by decide) (by decide) (by decide) (by decide)) (d_o 47 (by decide) (by decide) (by decide))
  have c2 : HW (bays3 (hour0 s.1 n) s.2.1 s.2.2.1 s.2.2.2) (coolM np 0 (potsM (hourHm Im n))) := b2.fr (fun a ha => c_o a (by omega) (by omega) (by omega) (by omega)) (fun a ha => d_o a (by omega) (by omega) (by omega))
  have c3 : ∀ k, k < 6 → HP (bays3 (hour0 s.1 n) s.2.1 s.2.2.1 s.2.2.2) (coolM np 0 (potsM (hourHm Im n))) (D + 3) k := fun k hk => (b3 k hk).fr (c_o _ (by omega) (by omega) (by omega) (by omega)) (fun a g1 g2 => d_o a (by omega) (by omega) (by omega))
  -- the end
  have es : (stepC n s).1 = hourT (bays3 (hour0 s.1 n) s.2.1 s.2.2.1 s.2.2.2) := rfl
  have em : hourM n np Im = hourEm (coolM np 0 (potsM (hourHm Im n))) := rfl
  obtain ⟨t1, t2, t3, t4⟩ := hourT_v c1.1
  obtain ⟨u1, u2, u3⟩ := hourEm_v c1.2.1
  have t_o : ∀ a, a ≠ 0 → a ≠ 37 → a ≠ 3 → hourT (bays3 (hour0 s.1 n) s.2.1 s.2.2.1 s.2.2.2) a = bays3 (hour0 s.1 n) s.2.1 s.2.2.1 s.2.2.2 a := fun a g1 g2 g3 => hourT_o g1 g2 g3
  have u_o : ∀ a, a ≠ 47 → a ≠ 66 → a ≠ 49 → hourEm (coolM np 0 (potsM (hourHm Im n))) a = coolM np 0 (potsM (hourHm Im n)) a := fun a g1 g2 g3 => funext (fun j => hourEm_o ⟨g1, g2, g3⟩)
  have u48 : ∀ j, j ≠ 0 → hourEm (coolM np 0 (potsM (hourHm Im n))) 47 j = coolM np 0 (potsM (hourHm Im n)) 47 j := fun j hj => hourEm_48 hj
  refine ⟨⟨?_, ?_, fun k hk => ?_, ?_⟩, ?_⟩
  · obtain ⟨x1, x2, x3, x4, x5⟩ := c1
    refine ⟨t1, u1, ?_, ?_, ?_⟩
    · rw [es, em, t_o 1 (by decide) (by decide) (by decide), u48 2 (by decide)]; exact x3
    · rw [es, em, t_o 4 (by decide) (by decide) (by decide), u48 3 (by decide)]; exact x4
    · rw [es, em, t_o 4 (by decide) (by decide) (by decide), u48 4 (by decide)]; exact x5
  · obtain ⟨x1, x2, x3, x4, x5⟩ := c2
    refine ⟨?_, ?_, ?_, ?_, ?_⟩
    · rw [es, em]; funext j; rw [t4, u3, x1]
    · rw [es, em, t_o 5 (by decide) (by decide) (by decide), u_o 50 (by decide) (by decide) (by decide)]; exact x2
    · rw [es, em, t_o 6 (by decide) (by decide) (by decide), u_o 51 (by decide) (by decide) (by decide)]; exact x3
    · rw [es, em, t_o 7 (by decide) (by decide) (by decide), u_o 52 (by decide) (by decide) (by decide)]; exact x4
    · rw [es, em]; funext j; rw [t3, u2, x5]
  · rw [es, em]
    exact (c3 k hk).fr (t_o _ (by omega) (by omega) (by omega)) (fun a g1 g2 => u_o a (by omega) (by omega) (by omega))
  · rw [es, em]
    exact c4.fr hpa (fun a ha => t_o a (by omega) (by omega) (by omega)) (fun a g1 g2 => u_o a (by omega) (by omega) (by omega))
  · unfold CK touchC
    refine ⟨fun a ha hn => ?_, fun k hk => ?_, fun k hk => ?_, fun k hk => ?_⟩
    · rw [es, t_o a (by omega) (by omega) (by omega), c_p a ha (by omega) (by omega) (by omega), p_o a (by omega), f_o a (by omega) (by omega)]
    · rw [es, t2 k hk, c_o 0 (by decide) (by decide) (by decide) (by decide), p_o 0 (by decide), f_o 0 (by decide) (by decide)]
    · rw [es, t_o 1 (by decide) (by decide) (by decide), c_o 1 (by decide) (by decide) (by decide) (by decide), p_o 1 (by decide)]
      unfold hourF
      rw [iu_o (by decide), iu_k hk]
    · rw [es, t_o 4 (by decide) (by decide) (by decide), c_o 4 (by decide) (by decide) (by decide) (by decide), p_o 4 (by decide)]
      unfold hourF
      rw [iu_k hk, iu_o (by decide)]
theorem CK.trans {s t u : CS} (h1 : CK np pa s t) (h2 : CK np pa t u) : CK np pa s u := ⟨fun a g1 g2 => (h2.1 a g1 g2).trans (h1.1 a g1 g2), fun k hk => (h2.2.1 k hk).trans (h1.2.1 k hk), fun k hk => (h2.2.2.1 k hk).trans (h1.2.2.1 k hk), fun k hk => (h2.2.2.2 k hk).trans (h1.2.2.2 k hk)⟩
theorem HR.pass (hinj : ∀ j k, j < np → k < np → pa j = pa k → j = k) (hpa : ∀ k, k < np → 90 ≤ pa k) : ∀ (m : Nat) (s : CS) (Im : IM) (v D : Nat), HR s Im np pa v D → D + 3 * m < 2 ^ 30 → HR (passC n m s) (passM n np m Im) np pa (v + m) (D + 3 * m) ∧ CK np pa s (passC n m s)
  | 0, s, Im, v, D, h, _ => ⟨h, fun _ _ _ => rfl, fun _ _ => rfl, fun _ _ => rfl, fun _ _ => rfl⟩
  | m + 1, s, Im, v, D, h, hD => by
    obtain ⟨g1, g2⟩ := h.hour (n := n) hinj hpa (by omega)
    obtain ⟨k1, k2⟩ := HR.pass hinj hpa m (stepC n s) (hourM n np Im) (v + 1) (D + 3) g1 (by omega)
    refine ⟨?_, g2.trans k2⟩
    rw [show v + (m + 1) = v + 1 + m by omega, show D + 3 * (m + 1) = D + 3 + 3 * m by omega]
    exact k1
theorem hourM_o {I : IM} {a : Nat} (h : a ≠ 47 ∧ a ≠ 49 ∧ a ≠ 55 ∧ a ≠ 66 ∧ a ≠ 71 ∧ a ≠ 73 ∧ a ≠ 76) : hourM n np I a = I a := by
  obtain ⟨g1, g2, g3, g4, g5, g6, g7⟩ := h
  unfold hourM hourTm
  funext j
  rw [hourEm_o ⟨g1, g4, g2⟩, coolM_o g5 g6 g7, potsM_o g3]
  unfold hourHm
  rw [iu_o g1, iu_o g1]
theorem passM_o {a : Nat} (h : a ≠ 47 ∧ a ≠ 49 ∧ a ≠ 55 ∧ a ≠ 66 ∧ a ≠ 71 ∧ a ≠ 73 ∧ a ≠ 76) : ∀ (m : Nat) (I : IM), passM n np m I a = I a
  | 0, _ => rfl
  | m + 1, I => (passM_o h m (hourM n np I)).trans (hourM_o h)
theorem passM_48 {k : Nat} (h0 : k ≠ 0) (h2 : k ≠ 2) (h4 : k ≠ 4) : ∀ (m : Nat) (I : IM), passM n np m I 47 k = I 47 k
  | 0, _ => rfl
  | m + 1, I => (passM_48 h0 h2 h4 m (hourM n np I)).trans (hourM_48 k h0 h2 h4)
end Hr2
