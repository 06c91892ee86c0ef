/-! ===== the relation kept: pass, whole ===== -/
section RelP2
variable {sh : List Sh} {I : IM} {J : JM} {R R1 : RM} {c n np : Nat} {pa : Nat → Nat}
theorem HR.of (h : Rel sh I J R c) (hp : RPc sh I R np pa) {v : Nat} (hv : v ≤ 5000) (hx : I 0 11 = nI v) (hy : I 47 0 = nI v) : HR (I, pl I pa np 0, pl I pa np 1, pl I pa np 2) I np pa v (3 * v) := by
  refine ⟨⟨hx, hy, h.sc.2.2.1, h.sc.2.2.2.1, h.sc.2.2.2.2.1⟩, ⟨h.rws.2.1, h.rws.2.2.1, h.rws.2.2.2.1, h.rws.2.2.2.2.1, h.rws.2.2.2.2.2⟩, fun k hk => ?_, fun k hk => (hp.1 k hk).2.2.2, ⟨rfl, rfl, rfl⟩, fun b hb => ?_, hp.2.2.2⟩
  · have q := h.pots k hk
    unfold RPt at q
    rw [hx, ixn (by omega)] at q
    exact q
  · obtain ⟨g1, g2⟩ := hp.2.2.1 b hb
    exact g2.trans g1.1
theorem pass_rel (h : Rel sh I J R c) (hnc : np ≤ c) (h14 : I 0 14 = nI np) (h27 : I 47 27 = nI np) (hp : RPc sh I R np pa) {x : Int32} (hw : ¬ wI x 1 500 = 0) (hle : I 0 11 + x ≤ 5000) (hI : PInv sh R n (passC n (ix x) (I, pl I pa np 0, pl I pa np 1, pl I pa np 2)) R1) {I1 : IM} (hI1 : I1 = (passC n (ix x) (I, pl I pa np 0, pl I pa np 1, pl I pa np 2)).1) : passRm I1 n np x = I1 4 5 ∧ Rel sh (passIm I1 n np x) J R1 (c + 1) := by
  obtain ⟨v, hv, hx, hy⟩ := id h.sc.1
  obtain ⟨ex, lx⟩ := hrs hw
  generalize hm : ix x = m at ex lx hI hI1
  have hvm : v + m ≤ 5000 := by
    rw [hx, ex, nI_add] at hle
    exact (nI_leI (b := 5000) (by omega) (by decide)).mp hle
  have hinj := hp.2.1
  have hpa : ∀ k, k < np → 90 ≤ pa k := fun k hk => (hp.1 k hk).2.2.1
  have hR0 := HR.of h hp hv hx hy
  obtain ⟨_, ck⟩ := HR.pass (n := n) hinj hpa m _ _ v (3 * v) hR0 (by omega)
  have hlt : ∀ a, a < 90 → ∀ k, k < np → a ≠ pa k := fun a ha k hk e => by have := hpa k hk; omega
  obtain ⟨ck1, ck2, ck3, ck4⟩ := ck
  rw [← hI1] at ck1 ck2 ck3 ck4
  have o1 : ∀ a, (∀ k, k < np → a ≠ pa k) → ¬ touchC a → I1 a = I a := ck1
  have om : ∀ a, 38 ≤ a → a < 90 → I1 a = I a := fun a g1 g2 => o1 a (hlt a g2) (by unfold touchC; omega)
  have hR1 : HR (I, pl I pa np 0, pl I pa np 1, pl I pa np 2) I1 np pa v (3 * v) := by
    obtain ⟨k1, k2, k3, k4⟩ := hR0
    exact ⟨k1.fr rfl rfl rfl (om 47 (by decide) (by decide)), k2.fr (fun _ _ => rfl) (fun a ha => om a (by omega) (by omega)), fun k hk => (k3 k hk).fr rfl (fun a g1 g2 => om a (by omega) (by omega)), k4.fr hpa (fun _ _ => rfl) (fun a g1 g2 => om a (by omega) (by omega))⟩
  obtain ⟨⟨t1, t2, t3, t4⟩, _⟩ := HR.pass (n := n) hinj hpa m _ _ v (3 * v) hR1 (by omega)
  generalize hS : passC n m (I, pl I pa np 0, pl I pa np 1, pl I pa np 2) = S at t1 t2 t3 t4 hI hI1
  rw [← hI1] at t1 t2 t3 t4
  have h48 : I1 47 0 + x ≤ 5000 := by rw [om 47 (by decide) (by decide), hy, ← hx]; exact hle
  have eI : passIm I1 n np x = passM n np m I1 := by unfold passIm; rw [if_neg hw, if_pos h48, hm]
  have eR : passRm I1 n np x = passM n np m I1 47 4 := by unfold passRm; rw [if_neg hw, if_pos h48, hm]
  rw [eI, eR]
  refine ⟨t1.2.2.2.2, ?_⟩
  generalize hI2 : passM n np m I1 = I2 at t1 t2 t3 t4
  have p_o : ∀ a, (a ≠ 47 ∧ a ≠ 49 ∧ a ≠ 55 ∧ a ≠ 66 ∧ a ≠ 71 ∧ a ≠ 73 ∧ a ≠ 76) → I2 a = I1 a := fun a ha => by rw [← hI2]; exact passM_o ha m I1
  have p48 : ∀ k, k ≠ 0 → k ≠ 2 → k ≠ 4 → I2 47 k = I 47 k := fun k g1 g2 g3 => by rw [← hI2, passM_48 g1 g2 g3, om 47 (by decide) (by decide)]
  have go : ∀ a, a < 90 → ¬ touchC a → (a ≠ 47 ∧ a ≠ 49 ∧ a ≠ 55 ∧ a ≠ 66 ∧ a ≠ 71 ∧ a ≠ 73 ∧ a ≠ 76) → I2 a = I a := fun a g1 g2 g3 => (p_o a g3).trans (o1 a (hlt a g1) g2)
  obtain ⟨s1, s2, b0, b1, b2, sR⟩ := hI
  rw [← hI1] at b0 b1 b2
  have hl := h.st.len
  have g0 : ∀ k, k ≠ 11 → I2 0 k = I 0 k := fun k hk => by rw [p_o 0 (by decide)]; exact ck2 k hk
  have hB : Blank sh I2 J R1 := h.bl.of (fun a ha => by
    rw [p_o a (by omega)]
    exact o1 a (fun k hk e => by have := sh_lt (hp.1 k hk).2.1; omega) (by unfold touchC; omega)) (fun _ _ => rfl) (fun a ha => sR a (by omega) (by omega) (by omega))
  have hwp : WP sh R1 := by
    have := h.wp
    unfold WP at this ⊢
    rw [sR 39 (by decide) (by decide) (by decide)]
    exact this
  obtain ⟨a1, a2, a3, a4, a5⟩ := t1
  obtain ⟨w1, w2, w3, w4, w5⟩ := t2
  obtain ⟨f1, ⟨f20, f21, f22⟩, f3, f4⟩ := t4
  refine ⟨⟨s1, hwp, hB⟩, ?_, ?_, h.kd.fr (fun a k1 k2 => go a (by omega) (by unfold touchC; omega) (by omega)) (fun a k1 k2 => go a (by omega) (by unfold touchC; omega) (by omega)), fun k hk => ?_, h.tx.fr (by rw [go 8 (by decide) (by unfold touchC; omega) (by decide)]) (p48 39 (by decide) (by decide) (by decide)) (by rw [go 14 (by decide) (by unfold touchC; omega) (by decide)]) (p48 42 (by decide) (by decide) (by decide)) (fun a ha => go a (by omega) (by unfold touchC; omega) (by omega)), h.shf.fr (fun a ha => go a (by omega) (by unfold touchC; omega) (by omega)), h.mv.fr (by rw [go 42 (by decide) (by unfold touchC; omega) (by decide)]) (p48 56 (by decide) (by decide) (by decide)) (fun a ha => go a (by omega) (by unfold touchC; omega) (by omega)), np, pa, by omega, (g0 14 (by decide)).trans h14, (p48 27 (by decide) (by decide) (by decide)).trans h27, fun k hk => ?_, hinj, fun b hb => ?_, f4⟩
  · refine ⟨⟨v + m, hvm, ?_, a2⟩, ?_, ?_, ?_, ?_, ?_, ?_, ?_⟩
    · rw [p_o 0 (by decide)]; exact a1
    · rw [p_o 1 (by decide), ck3 2 (by decide), p48 1 (by decide) (by decide) (by decide)]; exact h.sc.2.1
    · rw [p_o 1 (by decide)]; exact a3
    · rw [p_o 4 (by decide)]; exact a4
    · rw [p_o 4 (by decide)]; exact a5
    · rw [g0 12 (by decide), p48 5 (by decide) (by decide) (by decide)]; exact h.sc.2.2.2.2.2.1
    · rw [p_o 4 (by decide), ck4 3 (by decide), p48 8 (by decide) (by decide) (by decide)]; exact h.sc.2.2.2.2.2.2.1
    · rw [g0 13 (by decide), p48 12 (by decide) (by decide) (by decide)]; exact h.sc.2.2.2.2.2.2.2
  · refine ⟨?_, ?_, ?_, ?_, ?_, ?_⟩
    · rw [go 48 (by decide) (by unfold touchC; omega) (by decide), go 2 (by decide) (by unfold touchC; omega) (by decide)]; exact h.rws.1
    · rw [p_o 3 (by decide)]; exact w1
    · rw [p_o 5 (by decide)]; exact w2
    · rw [p_o 6 (by decide)]; exact w3
    · rw [p_o 7 (by decide)]; exact w4
    · rw [p_o 37 (by decide)]; exact w5
  · have q := t3 k hk
    unfold HP at q
    unfold RPt
    rw [p_o (18 + k) (by omega), p_o 0 (by decide), a1, ixn (by omega)]
    rw [show 3 * (v + m) = 3 * v + 3 * m by omega]
    exact q
  · obtain ⟨k1, k2, k3, _⟩ := hp.1 k hk
    have q := f1 k hk
    unfold HF at q
    unfold PF
    rw [p_o (pa k) (by omega)]
    exact ⟨by rw [sR 38 (by decide) (by decide) (by decide)]; exact k1, k2, k3, q⟩
  · rcases (show b = 0 ∨ b = 1 ∨ b = 2 by omega) with rfl | rfl | rfl
    · rw [← f20]
      have e : I2 31 = I1 31 := p_o 31 (by decide)
      refine ⟨b0.mv (by rw [e]) rfl, ?_⟩
      rw [f3 0 (by decide), ← f20]
      show _ = I2 31 1
      rw [e]; exact b0.1.symm
    · rw [← f21]
      have e : I2 33 = I1 33 := p_o 33 (by decide)
      refine ⟨b1.mv (by rw [e]) rfl, ?_⟩
      rw [f3 1 (by decide), ← f21]
      show _ = I2 33 1
      rw [e]; exact b1.1.symm
    · rw [← f22]
      have e : I2 35 = I1 35 := p_o 35 (by decide)
      refine ⟨b2.mv (by rw [e]) rfl, ?_⟩
      rw [f3 2 (by decide), ← f22]
      show _ = I2 35 1
      rw [e]; exact b2.1.symm
theorem pass_no (h : Rel sh I J R c) {x : Int32} (hw : wI x 1 500 = 0 ∨ ¬ I 0 11 + x ≤ 5000) : passRm I n np x = -1 ∧ passIm I n np x = I := by
  have e : I 47 0 = I 0 11 := h.sc.1.eq
  unfold passRm passIm
  by_cases h1 : wI x 1 500 = 0
  · rw [if_pos h1, if_pos h1]; exact ⟨rfl, rfl⟩
  · have h2 : ¬ I 47 0 + x ≤ 5000 := by
      rw [e]
      rcases hw with g | g
      · exact absurd g h1
      · exact g
    rw [if_neg h1, if_neg h2, if_neg h1, if_neg h2]; exact ⟨rfl, rfl⟩
theorem bayM_of (hp : RPc sh I R np pa) : BayM np 0 I := by
  intro j _ hj hz
  obtain ⟨b, hb, e⟩ := hp.2.2.2 j hj hz
  rw [e, ixn (by omega)]
  exact at_nI hb (by decide)
end RelP2
