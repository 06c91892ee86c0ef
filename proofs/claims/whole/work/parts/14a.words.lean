/-! ===== pass: words ===== -/
theorem fillF_o {I : IM} {a b n : Nat} {v : Int32} (h : b ≠ a) : fillF I a n v b = I b := by
  funext j
  simp [fillF, h]
theorem hourT_o {I : IM} {a : Nat} (h0 : a ≠ 0) (h1 : a ≠ 37) (h2 : a ≠ 3) : hourT I a = I a := by
  unfold hourT
  split
  · rw [fillF_o h2, fillF_o h1, iu_ne a h0]
  · rw [fillF_o h1, iu_ne a h0]
def PInv (sh : List Sh) (R : RM) (n : Nat) (s : CS) (Ri : RM) : Prop := St sh Ri ∧ s.1 4 3 = nI n ∧ BayOK sh s.1 Ri 31 32 s.2.1 ∧ BayOK sh s.1 Ri 33 34 s.2.2.1 ∧ BayOK sh s.1 Ri 35 36 s.2.2.2 ∧ ∀ e, e ≠ 32 → e ≠ 34 → e ≠ 36 → Ri e = R e
theorem St.eqR3 {sh : List Sh} {R R' : RM} (h : St sh R) (hR : ∀ e, e ≠ 32 → e ≠ 34 → e ≠ 36 → R' e = R e) : St sh R' := by
  refine ⟨h.1, fun a k c hc => ?_⟩
  have key : ∀ b, ptrT[b]? = some [] → a ≠ b := by
    rintro b hb rfl
    unfold ptr at hc
    rw [hb] at hc
    simp at hc
  rw [hR a (key 32 rfl) (key 34 rfl) (key 36 rfl)]
  exact h.2 a k c hc
theorem PInv.step {sh : List Sh} {R : RM} {n : Nat} {s : CS} {Ri : RM} {J : JM} {v : Option Value} {sh' : List Sh} {I' : IM} {J' : JM} {R' : RM} (h : PInv sh R n s Ri) (hq : stepQ sh J Ri (stepC n s) v sh' I' J' R') : PInv sh R n (stepC n s) R' := by
  obtain ⟨h1, h2, b0, b1, b2, h3⟩ := h
  obtain ⟨-, -, -, -, q0, q1, q2, q3⟩ := hq
  have n0 : ∀ c x, layL[c]? = some x → x ≠ .inl 6 → c ∉ s.2.1 ∧ c ∉ s.2.2.1 ∧ c ∉ s.2.2.2 := fun c x hc hx => ⟨b0.out (h1.1 c x hc) hx, b1.out (h1.1 c x hc) hx, b2.out (h1.1 c x hc) hx⟩
  have e : ∀ c x, layL[c]? = some x → x ≠ .inl 6 → c ≠ 0 → c ≠ 37 → c ≠ 3 → (stepC n s).1 c = coolB (coolB (coolB (hour0 s.1 n) 31 s.2.1) 33 s.2.2.1) 35 s.2.2.2 c := fun c x _ _ g0 g1 g2 => hourT_o g0 g1 g2
  refine ⟨h1.eqR3 q3, ?_, ?_, ?_, ?_, fun e e1 e2 e3 => (q3 e e1 e2 e3).trans (h3 e e1 e2 e3)⟩
  · have m := n0 4 _ rfl (by decide)
    rw [e 4 _ rfl (by decide) (by decide) (by decide) (by decide), coolB_o (by decide) m.2.2, coolB_o (by decide) m.2.1, coolB_o (by decide) m.1]
    exact h2
  · have m := n0 31 _ rfl (by decide)
    refine b0.cool (Ic := hour0 s.1 n) ?_ q0
    rw [e 31 _ rfl (by decide) (by decide) (by decide) (by decide), coolB_o (by decide) m.2.2, coolB_o (by decide) m.2.1]
    exact iu_same
  · have m := n0 33 _ rfl (by decide)
    refine b1.cool (Ic := coolB (hour0 s.1 n) 31 s.2.1) ?_ q1
    rw [e 33 _ rfl (by decide) (by decide) (by decide) (by decide), coolB_o (by decide) m.2.2]
    exact iu_same
  · refine b2.cool (Ic := coolB (coolB (hour0 s.1 n) 31 s.2.1) 33 s.2.2.1) ?_ q2
    rw [e 35 _ rfl (by decide) (by decide) (by decide) (by decide)]
    exact iu_same
def passQ (sh : List Sh) (J : JM) (R : RM) (I : IM) (n : Nat) (l0 l1 l2 : List Nat) (h : Int32) : CQ := fun v sh' I' J' R' => (wI h 1 500 = 0 ∨ ¬ I 0 11 + h ≤ 5000 → m_ret (some (.int (-1))) sh I J R v sh' I' J' R') ∧ (¬ wI h 1 500 = 0 → I 0 11 + h ≤ 5000 → v = some (.int ((passC n (ix h) (I, l0, l1, l2)).1 4 5)) ∧ sh' = sh ∧ I' = (passC n (ix h) (I, l0, l1, l2)).1 ∧ J' = J ∧ PInv sh R n (passC n (ix h) (I, l0, l1, l2)) R')
theorem hrs {h : Int32} (hw : ¬ wI h 1 500 = 0) : h = nI (ix h) ∧ ix h ≤ 500 := by
  have a := wI_int hw
  have e1 : (1 : Int32).toInt = 1 := by decide
  have e2 : (500 : Int32).toInt = 500 := by decide
  rw [e1, e2] at a
  have hat : At h 501 (ix h) := ⟨rfl, by rw [vp_in_iff]; omega⟩
  exact ⟨hat.eq (by decide), by have := hat.lt; omega⟩
/-- the reference -/
theorem coolM1_73 {I : IM} {k j : Nat} : coolM1 I k 72 j = I 72 j := by
  unfold coolM1
  by_cases h1 : I 71 k = 0
  · rw [if_pos h1]
    by_cases h2 : I 74 k ≤ I 73 k + 1
    · rw [if_pos h2]; rfl
    · rw [if_neg h2]; rfl
  · rw [if_neg h1]
theorem coolM1_72 {I : IM} {k j : Nat} (h : coolM1 I k 71 j = 0) : I 71 j = 0 := by
  unfold coolM1 at h
  by_cases h1 : I 71 k = 0
  · rw [if_pos h1] at h
    by_cases hj : j = k
    · rw [hj]; exact h1
    · by_cases h2 : I 74 k ≤ I 73 k + 1
      · rw [if_pos h2] at h; simpa [iu_ap, hj] using h
      · rw [if_neg h2] at h; exact h
  · rw [if_neg h1] at h; exact h
theorem coolM_keep : ∀ (m k : Nat) (I : IM) (j : Nat), coolM m k I 72 j = I 72 j ∧ (coolM m k I 71 j = 0 → I 71 j = 0) ∧ coolM m k I 47 j = I 47 j
  | 0, k, I, j => ⟨rfl, id, rfl⟩
  | m + 1, k, I, j => by
    have h := coolM_keep m (k + 1) (coolM1 I k) j
    exact ⟨h.1.trans coolM1_73, fun q => coolM1_72 (h.2.1 q), h.2.2.trans coolM1_s⟩
theorem hourEm_o {I : IM} {a j : Nat} (h : a ≠ 47 ∧ a ≠ 66 ∧ a ≠ 49) : hourEm I a j = I a j := by
  unfold hourEm
  split <;> simp [iu_ap, h]
theorem hourEm_48 {I : IM} {j : Nat} (h : j ≠ 0) : hourEm I 47 j = I 47 j := by
  unfold hourEm
  split <;> simp [iu_ap, h]
theorem BayM.hour {n np : Nat} {I : IM} (h : BayM np 0 I) : BayM np 0 (hourM n np I) := by
  intro j h1 h2
  unfold hourM hourTm
  rw [hourEm_o (by decide), hourEm_o (by decide), (coolM_keep _ _ _ _).1]
  intro h3
  have h4 := (coolM_keep _ _ _ _).2.1 h3
  exact h j h1 h2 h4
theorem hourM_48 {n np : Nat} {I : IM} (j : Nat) (h : j ≠ 0) (h2 : j ≠ 2) (h4 : j ≠ 4) : hourM n np I 47 j = I 47 j := by
  unfold hourM hourTm
  rw [hourEm_48 h, (coolM_keep _ _ _ _).2.2]
  simp [potsM, potM, hourHm, iu_ap, h2, h4]
def passIm (I : IM) (n np : Nat) (h : Int32) : IM := if wI h 1 500 = 0 then I else if I 47 0 + h ≤ 5000 then passM n np (ix h) I else I
def passRm (I : IM) (n np : Nat) (h : Int32) : Int32 := if wI h 1 500 = 0 then -1 else if I 47 0 + h ≤ 5000 then passM n np (ix h) I 47 4 else -1
