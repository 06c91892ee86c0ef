/-! ===== go, feed, lay, cold: words ===== -/
def allE (I : IM) : Int32 := if (emp (I 18 0) = 0 ∨ emp (I 19 0) = 0 ∨ emp (I 20 0) = 0 ∨ emp (I 21 0) = 0 ∨ emp (I 22 0) = 0 ∨ emp (I 23 0) = 0 ∨ ¬ I 31 1 ≤ 0 ∨ ¬ I 33 1 ≤ 0 ∨ ¬ I 35 1 ≤ 0) then 0 else 1
def goOk (I : IM) (s : Int32) : Prop := ¬ wI s 0 4 = 0 ∧ ¬ s = I 1 2 ∧ endF (I 0 11) = 0 ∧ ¬ allE I = 0
def goR (I : IM) (s : Int32) : Int32 := if wI s 0 4 = 0 then 0 else if s = I 1 2 then 0 else if endF (I 0 11) = 0 then (if allE I = 0 then 0 else 1) else 0
def goI (I : IM) (s : Int32) : IM := if wI s 0 4 = 0 then I else if s = I 1 2 then I else if endF (I 0 11) = 0 then (if allE I = 0 then I else iu (iu (iu I 1 2 s) 1 3 0) 4 5 0) else I
def allEm (I : IM) : Int32 := if (¬ I 53 0 < 0 ∨ ¬ I 53 1 < 0 ∨ ¬ I 53 2 < 0 ∨ ¬ I 53 3 < 0 ∨ ¬ I 53 4 < 0 ∨ ¬ I 53 5 < 0 ∨ ¬ I 76 0 ≤ 0 ∨ ¬ I 76 1 ≤ 0 ∨ ¬ I 76 2 ≤ 0) then 0 else 1
def goRm (I : IM) (s : Int32) : Int32 := if wI s 0 4 = 0 then 0 else if s = I 47 1 then 0 else if I 47 0 = 5000 then 0 else if allEm I = 0 then 0 else 1
def goIm (I : IM) (s : Int32) : IM := if wI s 0 4 = 0 then I else if s = I 47 1 then I else if I 47 0 = 5000 then I else if allEm I = 0 then I else iu (iu (iu I 47 1 s) 47 4 0) 47 2 0
theorem at_e {i : Int32} {n j : Nat} (h : i = nI j) (hj : j < n) (hn : n < 2 ^ 31) : At i n j := h ▸ at_nI hj hn
theorem nI_s (n : Nat) : nI (n + 1) = nI n + 1 := (nI_1 n).symm
def cB (v s : Int32) : Int32 := (v.toUInt32 >>> (s.toUInt32 &&& Int32.toUInt32 31)).toInt32 &&& 255
def mB (v s : Int32) : Int32 := (v >>> (s &&& 31)).toInt8.toInt32
def appI (I : IM) (n : Nat) (v : Int32) : IM := iu (iu (iu (iu (iu (iu (iu (iu I 9 n (cB v 24)) 8 5 (nI (n + 1))) 9 (n + 1) (cB v 16)) 8 5 (nI (n + 2))) 9 (n + 2) (cB v 8)) 8 5 (nI (n + 3))) 9 (n + 3) (cB v 0)) 8 5 (nI (n + 4))
def fourI (I : IM) (n : Nat) (v : Int32) : IM := iu (iu (iu (iu (iu (iu (iu (iu I 77 n (mB v 24)) 47 39 (nI (n + 1))) 77 (n + 1) (mB v 16)) 47 39 (nI (n + 2))) 77 (n + 2) (mB v 8)) 47 39 (nI (n + 3))) 77 (n + 3) (mB v 0)) 47 39 (nI (n + 4))
theorem app_len {n : Nat} (h : n + 4 ≤ 200) : nI n + 4 ≤ 200 := by
  have : nI n + 4 = nI (n + 4) := nI_add n 4
  rw [this]
  exact nI_le h (by decide)
def feedI (I : IM) (n : Nat) (a b c d e : Int32) : IM := appI (appI (appI (appI (appI I n a) (n + 4) b) (n + 8) c) (n + 12) d) (n + 16) e
def feedIm (I : IM) (n : Nat) (a b c d e : Int32) : IM := fourI (fourI (fourI (fourI (fourI I n a) (n + 4) b) (n + 8) c) (n + 12) d) (n + 16) e
/-- the first span that has h -/
def fwF (f t : Nat → Int32) (h : Int32) : Nat → Nat → Int32
  | 0, _ => -1
  | m + 1, k => if wI h (f k) (t k) = 0 then fwF f t h m (k + 1) else nI k
def mwF (f t : Nat → Int32) (h : Int32) : Nat → Int32 → Int32
  | 0, c => c
  | m + 1, c => mwF f t h m (if wI h (f m) (t m) = 0 then c else nI m)
/-- the cold of an hour -/
def coF (f t d : Nat → Int32) (h : Int32) : Nat → Nat → Int32 → Int32
  | 0, _, c => c
  | m + 1, k, c => coF f t d h m (k + 1) (if wI h (f k) (t k) = 0 then c else c + d k)
theorem nI_lt_of {k n : Nat} (h : ¬ nI n ≤ nI k) (hk : k < 2 ^ 31) : k < n := by
  rcases Nat.lt_or_ge k n with q | q
  · exact q
  · exact absurd (nI_le q hk) h
theorem nI_le_of {k n : Nat} (h : nI n ≤ nI k) (hk : k < 2 ^ 31) (hn : n < 2 ^ 31) : n ≤ k := (nI_leI hn hk).mp h
