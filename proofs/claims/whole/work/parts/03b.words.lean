/-! ===== the words in which the contracts speak ===== -/
theorem iu_same {I : IM} {a k : Nat} {x : Int32} : iu I a k x a k = x := by simp [iu]
theorem iu_o {I : IM} {a b k j : Nat} {x : Int32} (h : b ≠ a) : iu I a k x b j = I b j := by simp [iu, h]
theorem iu_k {I : IM} {a b k j : Nat} {x : Int32} (h : j ≠ k) : iu I a k x b j = I b j := by simp [iu, h]
theorem iu_self {I : IM} {a k : Nat} : iu I a k (I a k) = I := by
  funext b j
  simp only [iu]
  split
  · rename_i h; rw [h.1, h.2]
  · rfl
theorem iu_iu {I : IM} {a k : Nat} {x y : Int32} : iu (iu I a k x) a k y = iu I a k y := by
  funext b j
  simp only [iu]
  split <;> rfl
theorem ru_same {R : RM} {a k : Nat} {x : Option Nat} : ru R a k x a k = x := by simp [ru]
theorem ru_o {R : RM} {a b k j : Nat} {x : Option Nat} (h : b ≠ a) : ru R a k x b j = R b j := by simp [ru, h]
theorem ru_k {R : RM} {a b k j : Nat} {x : Option Nat} (h : j ≠ k) : ru R a k x b j = R b j := by simp [ru, h]
theorem ne_of_nle {x : Int32} (h : ¬ x ≤ 0) : ¬ x = 0 := fun e => h (e ▸ Int32.le_refl 0)
theorem ne_of_lt0 {x : Int32} (h : 0 < x) : ¬ x = 0 := fun e => absurd (e ▸ h : (0 : Int32) < 0) (by decide)
theorem sw_split (x : Int32) (hi : Nat) (h : hi < 2 ^ 31) : (x < 0 ∨ nI hi < x) ∨ ∃ j : Nat, j ≤ hi ∧ x = nI j := by
  by_cases h0 : x < 0
  · exact Or.inl (Or.inl h0)
  · by_cases h1 : nI hi < x
    · exact Or.inl (Or.inr h1)
    · obtain ⟨j, hj, rfl⟩ := nI_of h0
      refine Or.inr ⟨j, ?_, rfl⟩
      rcases Nat.lt_or_ge hi j with h2 | h2
      · exact absurd (nI_lt h2 hj) h1
      · exact h2
theorem sw_out {x : Int32} {hi : Nat} (h : x < 0 ∨ nI hi < x) (hh : hi < 2 ^ 31 := by decide) : x.toInt < 0 ∨ (hi : Int) < x.toInt := by
  rcases h with h | h
  · left
    rw [Int32.lt_iff_toInt_lt] at h
    exact h
  · right
    rw [Int32.lt_iff_toInt_lt, nI_toInt hh] at h
    exact h
/-- one of a list by a number; NONE outside -/
def selT (x : Int32) (l : List Int32) : Int32 := if x < 0 then -1 else l.getD x.toNatClampNeg (-1)
theorem selT_out {x : Int32} {hi : Nat} {l : List Int32} (h : x < 0 ∨ nI hi < x) (hl : l.length = hi + 1) (hh : hi < 2 ^ 31) : selT x l = -1 := by
  unfold selT
  rcases h with h | h
  · rw [if_pos h]
  · by_cases h0 : x < 0
    · rw [if_pos h0]
    · rw [if_neg h0]
      obtain ⟨j, hj, rfl⟩ := nI_of h0
      rw [nI_clamp hj, List.getD_eq_getElem?_getD, List.getElem?_eq_none]
      · rfl
      · have := (nI_ltI hh hj).mp h
        omega
/-- Pot -/
def rdy (b d n : Int32) : Int32 := if b = -1 then 0 else if d < n then 0 else 1
def emp (b : Int32) : Int32 := if b = -1 then 1 else 0
def needF (s a b : Int32) : Int32 := if s + a + b ≤ 0 then 0 else (60 * s + 10 * a + 20 * b) / (s + a + b)
def meltD (b d n h : Int32) : Int32 := if b = -1 then d else if h < 1100 then (if 800 ≤ h then d else if rdy b d n = 0 then (if 0 < d - 1 then d - 1 else 0) else d) else if h < 1300 then d + 2 else d + 3
def fillI (I : IM) (a : Nat) (n s h b : Int32) : IM := iu (iu (iu (iu I a 0 n) a 1 (s + h / 2 + b)) a 2 0) a 3 (needF s h b)
def clearI (I : IM) (a : Nat) : IM := iu (iu I a 0 (-1)) a 1 0
def takeI (I : IM) (a : Nat) (w : Int32) : IM := if 0 < I a 1 - w then iu I a 1 (I a 1 - w) else clearI (iu I a 1 (I a 1 - w)) a
/-- Kind -/
def brk (br bl : Int32) : Int32 := if br ≤ 0 then 0 else if bl - bl / br * br = 0 then 1 else 0
def suitF (t c w : Int32) : Int32 := if t = 0 then 0 else if c = -1 then 1 else if c = w then 1 else 0
/-- Piece -/
def newP (I : IM) (a : Nat) (k g b h w c : Int32) : IM := iu (iu (iu (iu (iu (iu (iu (iu I a 6 0) a 7 (-1)) a 0 k) a 1 g) a 2 b) a 3 h) a 4 w) a 5 c
def hundF (s a : Int32) : Int32 := if s + a ≤ 0 then 0 else 100 * a / (s + a)
def endF (n : Int32) : Int32 := if n < 5000 then 0 else 1
def roomF (n : Int32) : Int32 := if 20 ≤ n then 0 else 1
