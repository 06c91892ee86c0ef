/-! ===== hours: words ===== -/
def meltP (I : IM) (a : Nat) : IM := iu I a 2 (meltD (I a 0) (I a 2) (I a 3) (I 4 5))
def hourF (I : IM) (n : Nat) : IM := iu (iu I 1 3 (I 1 3 - mn (I 4 4) (I 1 3))) 4 5 (burnH (I 4 5) (mn (I 4 4) (I 1 3)) (coF (I 5) (I 6) (I 7) (I 0 11) n 0 0))
def hourP (I : IM) : IM := meltP (meltP (meltP (meltP (meltP (meltP I 18) 19) 20) 21) 22) 23
def hour0 (I : IM) (n : Nat) : IM := hourP (hourF I n)
def coolB (I : IM) (a : Nat) (l : List Nat) : IM := iu (coolL l I).2 a 1 (nI (coolL l I).1.length)
def hourT (I : IM) : IM := if (I 0 11 + 1) - (I 0 11 + 1) / 500 * 500 = 0 then fillF (fillF (iu I 0 11 (I 0 11 + 1)) 37 4 60) 3 5 0 else fillF (iu I 0 11 (I 0 11 + 1)) 37 4 60
abbrev CS : Type := IM × List Nat × List Nat × List Nat
def stepC (n : Nat) (s : CS) : CS := (hourT (coolB (coolB (coolB (hour0 s.1 n) 31 s.2.1) 33 s.2.2.1) 35 s.2.2.2), (coolL s.2.1 (hour0 s.1 n)).1, (coolL s.2.2.1 (coolB (hour0 s.1 n) 31 s.2.1)).1, (coolL s.2.2.2 (coolB (coolB (hour0 s.1 n) 31 s.2.1) 33 s.2.2.1)).1)
def passC (n : Nat) : Nat → CS → CS
  | 0, s => s
  | m + 1, s => passC n m (stepC n s)
theorem coolL_o {a : Nat} : ∀ (l : List Nat) (I : IM), a ∉ l → (coolL l I).2 a = I a
  | [], I, _ => rfl
  | p :: t, I, h => by
    have h1 : a ≠ p := fun e => h (e ▸ List.mem_cons_self)
    have h2 : a ∉ t := fun e => h (List.mem_cons_of_mem _ e)
    unfold coolL
    split
    · show (coolL t _).2 a = I a
      rw [coolL_o t _ h2, iu_ne a h1]
    · rw [coolL_o t _ h2, iu_ne a h1, iu_ne a h1]
theorem coolL_sub : ∀ (l : List Nat) (I : IM), (∀ p, p ∈ (coolL l I).1 → p ∈ l) ∧ (coolL l I).1.length ≤ l.length
  | [], I => ⟨fun _ h => h, Nat.le_refl _⟩
  | p :: t, I => by
    unfold coolL
    split
    · have h := coolL_sub t (iu I p 8 (I p 8 + 1))
      refine ⟨fun q hq => ?_, by simp only [List.length_cons]; omega⟩
      rcases List.mem_cons.mp hq with rfl | hq
      · exact List.mem_cons_self
      · exact List.mem_cons_of_mem _ (h.1 q hq)
    · have h := coolL_sub t (iu (iu I p 8 (I p 8 + 1)) p 6 1)
      exact ⟨fun q hq => List.mem_cons_of_mem _ (h.1 q hq), by simp only [List.length_cons]; omega⟩
theorem BayOK.mv {sh : List Sh} {I I' : IM} {R R' : RM} {a b : Nat} {l : List Nat} (h : BayOK sh I R a b l) (hI : I' a 1 = I a 1) (hR : R' b = R b) : BayOK sh I' R' a b l := ⟨hI.trans h.1, h.2.1, fun j hj => by rw [hR]; exact h.2.2.1 j hj, h.2.2.2⟩
theorem BayOK.out {sh : List Sh} {I : IM} {R : RM} {a b c : Nat} {l : List Nat} {x : Sh} (h : BayOK sh I R a b l) (hc : sh[c]? = some x) (hx : x ≠ .inl 6) : c ∉ l := fun hm => sh_ne hc (h.2.2.2 c hm) hx rfl
theorem BayOK.cool {sh : List Sh} {I I' : IM} {R R' : RM} {a b : Nat} {l : List Nat} (h : BayOK sh I R a b l) {Ic : IM} (hI : I' a 1 = nI (coolL l Ic).1.length) (hR : ∀ j, j < (coolL l Ic).1.length → R' b j = (coolL l Ic).1[j]?) : BayOK sh I' R' a b (coolL l Ic).1 := ⟨hI, Nat.le_trans (coolL_sub l Ic).2 h.2.1, hR, fun p hp => h.2.2.2 p ((coolL_sub l Ic).1 p hp)⟩
theorem St.eqR {sh : List Sh} {R R' : RM} (h : St sh R) {b : Nat} (hb : ptrT[b]? = some []) (hR : ∀ e, e ≠ b → R' e = R e) : St sh R' := by
  refine ⟨h.1, fun a k c hc => ?_⟩
  have hne : a ≠ b := by
    rintro rfl
    unfold ptr at hc
    rw [hb] at hc
    simp at hc
  rw [hR a hne]
  exact h.2 a k c hc
theorem coolB_o {I : IM} {a c : Nat} {l : List Nat} (h1 : c ≠ a) (h2 : c ∉ l) : coolB I a l c = I c := by
  unfold coolB
  rw [iu_ne c h1, coolL_o l I h2]
def stepQ (sh : List Sh) (J : JM) (R : RM) (s : CS) : CQ := fun v sh' I' J' R' => v = none ∧ sh' = sh ∧ I' = s.1 ∧ J' = J ∧ (∀ j, j < s.2.1.length → R' 32 j = s.2.1[j]?) ∧ (∀ j, j < s.2.2.1.length → R' 34 j = s.2.2.1[j]?) ∧ (∀ j, j < s.2.2.2.length → R' 36 j = s.2.2.2[j]?) ∧ ∀ e, e ≠ 32 → e ≠ 34 → e ≠ 36 → R' e = R e
/-- the reference -/
def burM (I : IM) : Int32 := if I 47 2 ≤ I 47 3 then I 47 2 else I 47 3
def clampM (x : Int32) : Int32 := if 0 ≤ x then (if x ≤ 2000 then x else 2000) else 0
def hourHm (I : IM) (n : Nat) : IM := iu (iu I 47 2 (I 47 2 - burM I)) 47 4 (clampM (I 47 4 + 30 * burM I - I 47 4 / 20 - coF (I 50) (I 51) (I 52) (I 47 0) n 0 0))
def meltM (b d n h : Int32) : Int32 := if 0 ≤ b then (if h < 1300 then (if h < 1100 then (if 800 ≤ h then d else if rdym d n = 0 then (if d ≤ 0 then d else d - 1) else d) else d + 2) else d + 3) else d
def potM (I : IM) (p : Nat) : IM := iu I 55 p (meltM (I 53 p) (I 55 p) (I 56 p) (I 47 4))
def potsM (I : IM) : IM := potM (potM (potM (potM (potM (potM I 0) 1) 2) 3) 4) 5
def coolM1 (I : IM) (k : Nat) : IM := if I 71 k = 0 then (if I 74 k ≤ I 73 k + 1 then iu (iu (iu I 73 k (I 73 k + 1)) 71 k 1) 76 (ix (I 72 k)) (I 76 (ix (I 72 k)) - 1) else iu I 73 k (I 73 k + 1)) else I
def coolM : Nat → Nat → IM → IM
  | 0, _, I => I
  | m + 1, k, I => coolM m (k + 1) (coolM1 I k)
def hourEm (I : IM) : IM := if (I 47 0 + 1) - (I 47 0 + 1) / 500 * 500 = 0 then iu (iu (iu (iu (iu (iu (iu (iu (iu (iu I 47 0 (I 47 0 + 1)) 66 0 60) 66 1 60) 66 2 60) 66 3 60) 49 0 0) 49 1 0) 49 2 0) 49 3 0) 49 4 0 else iu (iu (iu (iu (iu I 47 0 (I 47 0 + 1)) 66 0 60) 66 1 60) 66 2 60) 66 3 60
def hourTm (np : Nat) (I : IM) : IM := hourEm (coolM np 0 (potsM I))
def hourM (n np : Nat) (I : IM) : IM := hourTm np (hourHm I n)
def passM (n np : Nat) : Nat → IM → IM
  | 0, I => I
  | m + 1, I => passM n np m (hourM n np I)
/-- the pieces in bays have bays -/
def BayM (np : Nat) (k : Nat) (I : IM) : Prop := ∀ j, k ≤ j → j < np → I 71 j = 0 → At (I 72 j) 3 (ix (I 72 j))
theorem BayM.step {np k : Nat} {I : IM} (h : BayM np k I) : BayM np (k + 1) (coolM1 I k) := by
  intro j h1 h2
  have hj : j ≠ k := by omega
  have e72 : coolM1 I k 71 j = I 71 j := by
    unfold coolM1
    split
    · split <;> simp [iu_ap, hj]
    · rfl
  have e73 : coolM1 I k 72 j = I 72 j := by
    unfold coolM1
    split
    · split <;> simp [iu_ap]
    · rfl
  rw [e72, e73]
  exact h j (by omega) h2
theorem coolM1_s {I : IM} {k j : Nat} : coolM1 I k 47 j = I 47 j := by
  unfold coolM1
  by_cases h1 : I 71 k = 0
  · rw [if_pos h1]
    by_cases h2 : I 74 k ≤ I 73 k + 1
    · rw [if_pos h2]; rfl
    · rw [if_neg h2]; rfl
  · rw [if_neg h1]
theorem heat_fin {I : IM} {n : Nat} {b raw z : Int32} (hb : burM I = b) (hr : raw = I 47 4 + 30 * b - I 47 4 / 20 - coF (I 50) (I 51) (I 52) (I 47 0) n 0 0) (hz : clampM raw = z) : iu (iu I 47 2 (I 47 2 - b)) 47 4 z = hourHm I n := by
  subst hb
  subst hr
  subst hz
  rfl
