/-! ===== bays: words ===== -/
def CInv (sh : List Sh) (R : RM) (I : IM) (a b : Nat) (l todo ks : List Nat) (c i : Nat) (Ii : IM) (Ri : RM) : Prop := i + todo.length = l.length ∧ c ≤ i ∧ ks.length = c ∧ coolL l I = (ks ++ (coolL todo Ii).1, (coolL todo Ii).2) ∧ (∀ j, j < c → Ri b j = ks[j]?) ∧ (∀ j, j < todo.length → Ri b (i + j) = todo[j]?) ∧ (∀ e, e ≠ b → Ri e = R e) ∧ Ii a 1 = nI l.length ∧ ∀ p ∈ todo, sh[p]? = some (.inl 6)
theorem CInv.keep {sh : List Sh} {R : RM} {I : IM} {a b : Nat} {l t ks : List Nat} {p c i : Nat} {Ii : IM} {Ri : RM} (h : CInv sh R I a b l (p :: t) ks c i Ii Ri) (hpa : a ≠ p) (hk : Ii p 8 + 1 < Ii p 5) : CInv sh R I a b l t (ks ++ [p]) (c + 1) (i + 1) (iu Ii p 8 (Ii p 8 + 1)) (ru Ri b c (some p)) := by
  obtain ⟨h1, h2, h3, h4, h5, h6, h7, h8, h9⟩ := h
  simp only [List.length_cons] at h1
  refine ⟨by omega, by omega, by simp [h3], ?_, ?_, ?_, ?_, ?_, fun q hq => h9 q (List.mem_cons_of_mem _ hq)⟩
  · rw [h4]
    simp [coolL, hk]
  · intro j hj
    by_cases hjc : j = c
    · subst hjc
      rw [ru_same, ← h3]
      simp
    · rw [ru_k hjc, h5 j (by omega), List.getElem?_append_left (by omega)]
  · intro j hj
    rw [ru_k (by omega)]
    have := h6 (j + 1) (by simp; omega)
    rw [show i + 1 + j = i + (j + 1) by omega, this]
    simp
  · intro e he
    rw [ru_ne e he]
    exact h7 e he
  · rw [iu_o hpa]
    exact h8
theorem CInv.drop {sh : List Sh} {R : RM} {I : IM} {a b : Nat} {l t ks : List Nat} {p c i : Nat} {Ii : IM} {Ri : RM} (h : CInv sh R I a b l (p :: t) ks c i Ii Ri) (hpa : a ≠ p) (hk : ¬ Ii p 8 + 1 < Ii p 5) : CInv sh R I a b l t ks c (i + 1) (iu (iu Ii p 8 (Ii p 8 + 1)) p 6 1) Ri := by
  obtain ⟨h1, h2, h3, h4, h5, h6, h7, h8, h9⟩ := h
  simp only [List.length_cons] at h1
  refine ⟨by omega, by omega, h3, ?_, h5, ?_, h7, ?_, fun q hq => h9 q (List.mem_cons_of_mem _ hq)⟩
  · rw [h4]
    simp [coolL, hk]
  · intro j hj
    have := h6 (j + 1) (by simp; omega)
    rw [show i + 1 + j = i + (j + 1) by omega, this]
    simp
  · rw [iu_o hpa, iu_o hpa]
    exact h8
def coolQ (sh : List Sh) (I : IM) (J : JM) (R : RM) (a b : Nat) (l : List Nat) : CQ := fun v sh' I' J' R' => v = none ∧ sh' = sh ∧ I' = iu (coolL l I).2 a 1 (nI (coolL l I).1.length) ∧ J' = J ∧ (∀ j, j < (coolL l I).1.length → R' b j = (coolL l I).1[j]?) ∧ ∀ e, e ≠ b → R' e = R e
def BInv (sh : List Sh) (R : RM) (I : IM) (a b : Nat) (l todo : List Nat) (i : Nat) (Ii : IM) (w : Int32) : Prop := i + todo.length = l.length ∧ brkL l I 0 = brkL todo Ii w ∧ (∀ j, j < todo.length → R b (i + j) = todo[j]?) ∧ Ii a 1 = nI l.length ∧ ∀ p ∈ todo, sh[p]? = some (.inl 6)
theorem BInv.step {sh : List Sh} {R : RM} {I : IM} {a b : Nat} {l t : List Nat} {p i : Nat} {Ii : IM} {w : Int32} (h : BInv sh R I a b l (p :: t) i Ii w) (hpa : a ≠ p) : BInv sh R I a b l t (i + 1) (iu Ii p 6 3) (w + Ii p 4) := by
  obtain ⟨h1, h2, h3, h4, h5⟩ := h
  simp only [List.length_cons] at h1
  refine ⟨by omega, by rw [h2]; rfl, ?_, ?_, fun q hq => h5 q (List.mem_cons_of_mem _ hq)⟩
  · intro j hj
    have := h3 (j + 1) (by simp; omega)
    rw [show i + 1 + j = i + (j + 1) by omega, this]
    simp
  · rw [iu_o hpa]
    exact h4
theorem CInv.fin {sh : List Sh} {R : RM} {I : IM} {J : JM} {a b : Nat} {l ks : List Nat} {c i : Nat} {Ii : IM} {Ri : RM} (h : CInv sh R I a b l [] ks c i Ii Ri) : coolQ sh I J R a b l none sh (iu Ii a 1 (nI c)) J Ri := by
  obtain ⟨q1, q2, q3, q4, q5, q6, q7, q8, q9⟩ := h
  have e1 : (coolL l I).1 = ks := by rw [q4]; simp [coolL]
  have e2 : (coolL l I).2 = Ii := by rw [q4]; rfl
  refine ⟨rfl, rfl, by rw [e1, e2, q3], rfl, fun j hj => ?_, q7⟩
  rw [e1] at hj ⊢
  exact q5 j (by omega)
theorem room_lt {n : Nat} (h : n < 20) : roomF (nI n) = 1 := by
  unfold roomF
  exact if_neg (show ¬ (20 : Int32) ≤ nI n from nI_ge (b := 20) h (by decide))
