/-! ===== lay, bays, blow, hours: words ===== -/
theorem toInt_rng (x : Int32) : -2147483648 ≤ x.toInt ∧ x.toInt ≤ 2147483647 := by
  have h1 := x.le_toInt
  have h2 := x.toInt_lt
  omega
theorem bm_id {x : Int} (h1 : -2147483648 ≤ x) (h2 : x ≤ 2147483647) : x.bmod (2 ^ 32) = x := by
  apply Int.bmod_eq_of_le <;> omega
theorem add_toInt {x y : Int32} (h1 : -2147483648 ≤ x.toInt + y.toInt) (h2 : x.toInt + y.toInt ≤ 2147483647) : (x + y).toInt = x.toInt + y.toInt := by
  rw [Int32.toInt_add]; exact bm_id h1 h2
theorem sub_toInt {x y : Int32} (h1 : -2147483648 ≤ x.toInt - y.toInt) (h2 : x.toInt - y.toInt ≤ 2147483647) : (x - y).toInt = x.toInt - y.toInt := by
  rw [Int32.toInt_sub]; exact bm_id h1 h2
theorem mul_toInt {x y : Int32} (h1 : -2147483648 ≤ x.toInt * y.toInt) (h2 : x.toInt * y.toInt ≤ 2147483647) : (x * y).toInt = x.toInt * y.toInt := by
  rw [Int32.toInt_mul]; exact bm_id h1 h2
theorem wI_int {x lo hi : Int32} (h : ¬ wI x lo hi = 0) : lo.toInt ≤ x.toInt ∧ x.toInt ≤ hi.toInt := by
  have := wI_1 h
  rw [Int32.le_iff_toInt_le, Int32.le_iff_toInt_le] at this
  exact this
theorem lay_sum {s h b : Int32} (h1 : ¬ wI s 1 200 = 0) (h2 : ¬ wI h 0 200 = 0) (h3 : ¬ wI b 0 200 = 0) : ¬ s + h + b ≤ 0 ∧ ¬ s + h ≤ 0 := by
  have a1 := wI_int h1
  have a2 := wI_int h2
  have a3 := wI_int h3
  have e1 : (1 : Int32).toInt = 1 := by decide
  have e0 : (0 : Int32).toInt = 0 := by decide
  have e2 : (200 : Int32).toInt = 200 := by decide
  rw [e1, e2] at a1
  rw [e0, e2] at a2 a3
  have s1 : (s + h).toInt = s.toInt + h.toInt := add_toInt (by omega) (by omega)
  have s2 : (s + h + b).toInt = s.toInt + h.toInt + b.toInt := by
    rw [add_toInt (by omega) (by omega), s1]
  rw [Int32.le_iff_toInt_le, Int32.le_iff_toInt_le, s1, s2, e0]
  omega
theorem fillI_o {I : IM} {a b : Nat} {n s h c : Int32} (hb : b ≠ a) : fillI I a n s h c b = I b := by
  unfold fillI
  rw [iu_ne b hb, iu_ne b hb, iu_ne b hb, iu_ne b hb]
theorem clearI_o {I : IM} {a b : Nat} (hb : b ≠ a) : clearI I a b = I b := by
  unfold clearI
  rw [iu_ne b hb, iu_ne b hb]
theorem takeI_o {I : IM} {a b : Nat} {w : Int32} (hb : b ≠ a) : takeI I a w b = I b := by
  unfold takeI
  split
  · rw [iu_ne b hb]
  · rw [clearI_o hb, iu_ne b hb]
theorem newP_o {I : IM} {a b : Nat} {k g n h w c : Int32} (hb : b ≠ a) : newP I a k g n h w c b = I b := by
  unfold newP
  rw [iu_ne b hb, iu_ne b hb, iu_ne b hb, iu_ne b hb, iu_ne b hb, iu_ne b hb, iu_ne b hb, iu_ne b hb]
def layI (I : IM) (n : Nat) (p s h b : Int32) : IM := iu (iu (fillI (iu I 0 12 (I 0 12 - b)) (18 + ix p) (I 0 13) s h b) (18 + ix p) 4 (fwF (I 15) (I 16) (hundF s h) n 0)) 0 13 (I 0 13 + 1)
def layOk (I : IM) (p s h b : Int32) : Bool := (!(wI p 0 5 == 0) && ((endF (I 0 11) == 0) && (!(decide (200 ≤ I 0 13)) && !(emp (I (18 + ix p) 0) == 0)))) && (!(wI s 1 200 == 0) && (!(wI h 0 200 == 0) && (!(wI b 0 200 == 0) && decide (b ≤ I 0 12))))
def layOkm (I : IM) (p s h b : Int32) : Bool := !(wI p 0 5 == 0) && (!(decide (0 ≤ I 53 (ix p))) && (!(I 47 12 == 200) && (!(wI s 1 200 == 0) && (!(wI h 0 200 == 0) && (!(wI b 0 200 == 0) && (!(decide (I 47 5 < b)) && !(I 47 0 == 5000)))))))
def layBm (I : IM) (p s h b : Int32) : IM := iu (iu (iu (iu (iu (iu I 47 5 (I 47 5 - b)) 53 (ix p) (I 47 12)) 47 12 (I 47 12 + 1)) 54 (ix p) (s + h / 2 + b)) 55 (ix p) 0) 56 (ix p) ((60 * s + 10 * h + 20 * b) / (s + h + b))
def layIm (I : IM) (n : Nat) (p s h b : Int32) : IM := iu (layBm I p s h b) 57 (ix p) (mwF (I 78) (I 79) (100 * h / (s + h)) n (-1))
theorem nI_m1 (m : Nat) : nI (m + 1) - 1 = nI m := nI_pred m
theorem nI_dec (m : Nat) : nI (m + 1) - 1 + Int32.ofInt (-1) = nI m - 1 := by
  rw [nI_pred, show Int32.ofInt (-1) = -1 by decide, Int32.sub_eq_add_neg]
theorem nI_neg {m : Nat} (h : nI m - 1 < 0) (hm : m < 2 ^ 31) : m = 0 := by
  cases m with
  | zero => rfl
  | succ m => rw [nI_pred] at h; exact absurd h (nI_pos (by omega))
theorem nI_nneg {m : Nat} (h : ¬ nI m - 1 < 0) : ∃ q, m = q + 1 := by
  cases m with
  | zero => exact absurd (by decide) h
  | succ m => exact ⟨m, rfl⟩
/-- an hour of the pieces in a bay -/
def coolL : List Nat → IM → List Nat × IM
  | [], I => ([], I)
  | p :: t, I => if I p 8 + 1 < I p 5 then (p :: (coolL t (iu I p 8 (I p 8 + 1))).1, (coolL t (iu I p 8 (I p 8 + 1))).2) else coolL t (iu (iu I p 8 (I p 8 + 1)) p 6 1)
/-- all pieces of a bay break -/
def brkL : List Nat → IM → Int32 → Int32 × IM
  | [], I, w => (w, I)
  | p :: t, I, w => brkL t (iu I p 6 3) (w + I p 4)
/-- bay a with its row b holds the pieces l -/
def BayOK (sh : List Sh) (I : IM) (R : RM) (a b : Nat) (l : List Nat) : Prop := I a 1 = nI l.length ∧ l.length ≤ 20 ∧ (∀ j, j < l.length → R b j = l[j]?) ∧ ∀ p ∈ l, sh[p]? = some (.inl 6)
theorem sh_ne {sh : List Sh} {a b : Nat} {x y : Sh} (ha : sh[a]? = some x) (hb : sh[b]? = some y) (h : x ≠ y) : a ≠ b := fun e => h (Option.some.inj (ha.symm.trans (e ▸ hb)))
