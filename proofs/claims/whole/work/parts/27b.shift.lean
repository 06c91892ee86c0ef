/-! ===== the relation kept: shift ===== -/
theorem suit_01 (t c w : Int32) : suitF t c w = 0 ∨ suitF t c w = 1 := by
  unfold suitF
  repeat' split
  all_goals first | exact Or.inl rfl | exact Or.inr rfl
theorem kd_ex {I : IM} (h : RKd I) (c : Int32) : ∃ K : Kd, KC I c K ∧ KM I c K := by
  let u : Nat → Bool := fun k => decide (k < 5) && !(suitF (I (25 + k) 0) (I (25 + k) 4) c == 0)
  have hu : ∀ k, u k = true → k < 5 ∧ ¬ suitF (I (25 + k) 0) (I (25 + k) 4) c = 0 := by
    intro k hk
    simpa [u] using hk
  have told : ∀ k, u k = true → (∃ w, 1 ≤ w ∧ w ≤ 50 ∧ I (25 + k) 1 = nI w) ∧ (∃ m, 1 ≤ m ∧ m ≤ 60 ∧ I (25 + k) 2 = nI m) ∧ (∃ p, 1 ≤ p ∧ p ≤ 10000 ∧ I (25 + k) 3 = nI p) := by
    intro k hk
    obtain ⟨h5, hs⟩ := hu k hk
    rcases (h k h5).2 with r | r
    · exfalso
      apply hs
      unfold suitF
      rw [if_pos r]
    · exact r.2
  have hKC : ∀ k, k < 5 → suitF (I (25 + k) 0) (I (25 + k) 4) c = (if u k = true then 1 else 0) := by
    intro k hk
    rcases suit_01 (I (25 + k) 0) (I (25 + k) 4) c with r | r
    · rw [if_neg (fun q => (hu k q).2 r)]; exact r
    · rw [if_pos (by simp [u, hk, r])]; exact r
  have hv : ∀ k, u k = true → I (25 + k) 1 = nI (ix (I (25 + k) 1)) ∧ I (25 + k) 2 = nI (ix (I (25 + k) 2)) ∧ I (25 + k) 3 = nI (ix (I (25 + k) 3)) := by
    intro k hk
    obtain ⟨⟨w, w1, w2, w3⟩, ⟨m, m1, m2, m3⟩, ⟨p, p1, p2, p3⟩⟩ := told k hk
    rw [w3, m3, p3, ixn (by omega), ixn (by omega), ixn (by omega)]
    exact ⟨rfl, rfl, rfl⟩
  refine ⟨⟨(u, fun k => ix (I (25 + k) 1), fun k => ix (I (25 + k) 2), fun k => ix (I (25 + k) 3)), fun k hk => ?_, fun k hk => ?_, fun k hk => ?_⟩, fun k hk => ⟨hKC k hk, hv k⟩, fun k hk => ?_⟩
  · obtain ⟨w, w1, w2, w3⟩ := (told k hk).1
    show 1 ≤ ix (I (25 + k) 1) ∧ ix (I (25 + k) 1) ≤ 50
    rw [w3, ixn (by omega)]
    exact ⟨w1, w2⟩
  · obtain ⟨w, w1, w2, w3⟩ := (told k hk).2.1
    show 1 ≤ ix (I (25 + k) 2) ∧ ix (I (25 + k) 2) ≤ 60
    rw [w3, ixn (by omega)]
    exact ⟨w1, w2⟩
  · obtain ⟨w, w1, w2, w3⟩ := (told k hk).2.2
    show 1 ≤ ix (I (25 + k) 3) ∧ ix (I (25 + k) 3) ≤ 10000
    rw [w3, ixn (by omega)]
    exact ⟨w1, w2⟩
  · have q := (h k hk).1
    have q0 : I 58 k = I (25 + k) 0 := q 0 (by decide)
    have q1 : I 59 k = I (25 + k) 1 := q 1 (by decide)
    have q2 : I 60 k = I (25 + k) 2 := q 2 (by decide)
    have q3 : I 61 k = I (25 + k) 3 := q 3 (by decide)
    have q4 : I 62 k = I (25 + k) 4 := q 4 (by decide)
    rw [q0, q1, q2, q3, q4]
    exact ⟨hKC k hk, hv k⟩
section RelSh
variable {sh sh' : List Sh} {I : IM} {J : JM} {R R' : RM} {c : Nat}
theorem RPiece.mv (h : RPiece sh I R c) (hs : ∀ (a : Nat) (x : Sh), sh[a]? = some x → sh'[a]? = some x) (hR : ∀ a, 32 ≤ a → a ≤ 38 → R' a = R a) : RPiece sh' I R' c := by
  obtain ⟨n, pa, q1, q2, q3, p1, p2, p3, p4⟩ := h
  refine ⟨n, pa, q1, q2, q3, fun k hk => ?_, p2, fun b hb => ?_, p4⟩
  · obtain ⟨g1, g2, g3, g4⟩ := p1 k hk
    exact ⟨by rw [hR 38 (by decide) (by decide)]; exact g1, hs _ _ g2, g3, g4⟩
  · obtain ⟨⟨b1, b2, b3, b4⟩, g2⟩ := p3 b hb
    exact ⟨⟨b1, b2, fun j hj => by rw [hR _ (by omega) (by omega)]; exact b3 j hj, fun p hp => hs _ _ (b4 p hp)⟩, g2⟩
theorem shift_rel (h : Rel sh I J R c) {K : Kd} {M G : Nat} {v1 v2 : Option Value} {s1 s2 : List Sh} {I1 I2 : IM} {J1 J2 : JM} {R1 R2 : RM} (q1 : shQ sh' I R' K M G v1 s1 I1 J1 R1) (q2 : shmQ s1 I1 J1 R1 K M G v2 s2 I2 J2 R2) (hst : St sh' R') (hwp : WP sh' R') (hs : ∀ (a : Nat) (x : Sh), sh[a]? = some x → sh'[a]? = some x) (hR : ∀ a, 32 ≤ a → a ≤ 38 → R' a = R a) : v2 = v1 ∧ s2 = sh' ∧ R2 = R' ∧ Rel sh' I2 J2 R' (c + 1) := by
  obtain ⟨x, hx, e1, e2, e3, hB, f1, m6, m7, m8, mk⟩ := q1
  obtain ⟨y, hy, d1, d2, d3, g1, g2, n5, n6, nk⟩ := q2
  have exy := hx.uniq hy
  subst exy
  have hl := hst.len
  rw [e2, e3] at hB
  have ho : ∀ a, a < 39 ∨ 41 < a → a ≠ 85 → I2 a = I a := fun a ha hb => (g2 a hb).trans (f1 a ha)
  have h39 : I2 39 = I1 39 := g2 39 (by decide)
  have h42 : I2 41 = I1 41 := g2 41 (by decide)
  refine ⟨d1.trans e1.symm, d2.trans e2, d3.trans e3, ⟨hst, hwp, hB.of (fun a ha => g2 a (by omega)) (fun a ha => g1 a (by omega)) (fun _ _ => rfl)⟩, h.sc.fr (fun a ha => ho a (by omega) (by omega)) (fun k _ => by rw [ho 47 (by omega) (by omega)]), h.rws.fr (fun a ha => ho a (by omega) (by omega)), h.kd.fr (fun a g1 g2 => ho a (by omega) (by omega)) (fun a g1 g2 => ho a (by omega) (by omega)), h.pots.fr (fun a g1 g2 => ho a (by omega) (by omega)) (fun a g1 g2 => ho a (by omega) (by omega)) (by rw [ho 0 (by omega) (by omega)]; exact Nat.le_refl _), h.tx.fr (by rw [ho 8 (by omega) (by omega)]) (by rw [ho 47 (by omega) (by omega)]) (by rw [ho 14 (by omega) (by omega)]) (by rw [ho 47 (by omega) (by omega)]) (fun a ha => ho a (by omega) (by omega)), Or.inr ⟨?_, fun k hk => ?_, ?_, ?_⟩, h.mv.fr (by rw [ho 42 (by omega) (by omega)]) (by rw [ho 47 (by omega) (by omega)]) (fun a ha => ho a (by omega) (by omega)), (h.pc.fr (I' := I2) (fun a g1 g2 => ho a (by omega) (by omega)) (fun a g1 => ho a (by omega) (by omega)) (fun b hb => ho _ (by omega) (by omega)) (by rw [ho 0 (by omega) (by omega)]) (by rw [ho 47 (by omega) (by omega)]) (Nat.le_succ c)).mv hs hR⟩
  · rw [h39]; exact m6
  · rw [h42, nk k hk, mk k hk]
  · rw [h39, n5, m7]
  · rw [h39, n6, m8]
theorem St.grow (h : St sh R) : St (sh ++ [.inr (1, 24531)] ++ [.inr (1, 24531)]) (ru (ru R 39 0 (some sh.length)) 39 1 (some (sh.length + 1))) :=
  (((h.app (.inr (1, 24531))).app (.inr (1, 24531))).ru39 (k := 0) (by decide) (some sh.length)).ru39 (k := 1) (by decide) (some (sh.length + 1))
theorem WP.grow (h : St sh R) : WP (sh ++ [.inr (1, 24531)] ++ [.inr (1, 24531)]) (ru (ru R 39 0 (some sh.length)) 39 1 (some (sh.length + 1))) := by
  have := h.len
  exact Or.inr ⟨sh.length, sh.length + 1, by rw [ru_k (by decide), ru_same], ru_same, by omega, by omega, by omega, by simp, by simp⟩
theorem no_use {K : Kd} (h : ¬ ∃ k, k < 5 ∧ K.u k = true) : ∀ U q, QP K q U 5 → U = 0 := by
  intro U q hq
  rcases Nat.eq_zero_or_pos U with r | r
  · exact r
  · exact absurd ⟨q 0, hq.2.1 0 r⟩ h
end RelSh
