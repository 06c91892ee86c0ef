/-! ===== the relation kept: blow ===== -/
theorem fbR_eq (x y z : Int32) : fbR x y z = fbRm x y z := by
  have e : ∀ w : Int32, roomF w = 0 ↔ 20 ≤ w := fun w => by
    unfold roomF
    by_cases h : 20 ≤ w
    · rw [if_pos h]; exact ⟨fun _ => h, fun _ => rfl⟩
    · rw [if_neg h]; exact ⟨fun q => absurd q (by decide), fun q => absurd q h⟩
  unfold fbR fbRm
  simp only [e]
theorem fbRm_neg (x y z : Int32) : fbRm x y z < 0 ↔ fbRm x y z = -1 := by
  unfold fbRm
  repeat' split
  all_goals decide
section RelB
variable {sh : List Sh} {I : IM} {J : JM} {R : RM} {c : Nat}
theorem blow_ans (h : Rel sh I J R c) {n : Nat} (h14 : I 0 14 = nI n) (h27 : I 47 27 = nI n) (hn : n < 1000) (g k p : Int32) : blowRm I g k p = blowRc I g k p := by
  unfold blowRm blowRc
  by_cases hg : wI g 0 3 = 0
  · rw [if_pos hg, if_pos hg]
  by_cases hk : wI k 0 4 = 0
  · rw [if_neg hg, if_neg hg]
    by_cases hp : wI p 0 5 = 0
    · rw [if_pos hp, if_pos hk]
    · rw [if_neg hp, if_pos hk, if_pos hk]
  by_cases hp : wI p 0 5 = 0
  · rw [if_neg hg, if_neg hg, if_pos hp, if_neg hk, if_pos hp]
  rw [if_neg hg, if_neg hg, if_neg hp, if_neg hk, if_neg hk, if_neg hp]
  obtain ⟨_, lp⟩ := ix_le (n := 5) hp rfl (by decide)
  obtain ⟨_, lk⟩ := ix_le (n := 4) hk rfl (by decide)
  generalize ix p = q at lp
  generalize ix k = d at lk
  have kd := (h.kd d (by omega)).1
  have k0 : I 58 d = I (25 + d) 0 := kd 0 (by decide)
  have k1 : I 59 d = I (25 + d) 1 := kd 1 (by decide)
  have k2 : I 60 d = I (25 + d) 2 := kd 2 (by decide)
  have k4 : I 62 d = I (25 + d) 4 := kd 4 (by decide)
  have b0 := bay_sz h.pc (b := 0) (by decide)
  have b1 := bay_sz h.pc (b := 1) (by decide)
  have b2 := bay_sz h.pc (b := 2) (by decide)
  simp only [Nat.mul_zero, Nat.add_zero, Nat.reduceMul, Nat.reduceAdd] at b0 b1 b2
  have n1 : ¬ I 47 27 = 1000 := by
    rw [h27]
    intro e
    have := (nI_eq (b := 1000) (by omega) (by decide)).mp e
    omega
  have n2 : I 0 14 < 1000 := by rw [h14]; exact nI_lt hn (by decide)
  unfold whyF
  rw [k0, k1, k2, k4, b0, b1, b2, fbR_eq, if_neg n1, if_pos n2, h.sc.2.2.2.2.1, h.rws.2.2.2.2.2]
  by_cases t : I (25 + d) 0 = 0
  · rw [if_pos t, if_pos t]
  rw [if_neg t, if_neg t]
  by_cases e : I 47 0 = 5000
  · have e' : ¬ endF (I 0 11) = 0 := fun z => (end_iff h.sc.1).mp z e
    rw [if_pos e, if_neg e']
  have e' : endF (I 0 11) = 0 := (end_iff h.sc.1).mpr e
  rw [if_neg e, if_pos e']
  obtain ⟨q0, qr⟩ := h.pots q (by omega)
  rw [q0]
  rcases qr with qr | ⟨⟨b, hb, eb⟩, g1, g2, g3, g4, _⟩
  · rw [qr, if_pos (by decide)]
    unfold rdy
    rw [if_pos rfl, if_pos rfl]
  · have m1 : ¬ I (18 + q) 0 = -1 := by rw [eb]; exact nI_nm1 (by omega)
    have m0 : ¬ I (18 + q) 0 < 0 := by rw [eb]; exact nI_pos (by omega)
    have er : rdy (I (18 + q) 0) (I (18 + q) 2) (I (18 + q) 3) = rdym (I (18 + q) 2) (I (18 + q) 3) := by unfold rdy rdym; rw [if_neg m1]
    rw [if_neg m0, er, g1, g2, g3, g4]
    simp only [fbRm_neg]
end RelB
