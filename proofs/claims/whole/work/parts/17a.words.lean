/-! ===== the text of spans: words ===== -/
def scan (p : Int32 → Bool) (T : Nat → Int32) (n : Nat) : Nat → Nat → Nat
  | 0, i => i
  | f + 1, i => if i < n ∧ p (T i) = true then scan p T n f (i + 1) else i
def pbl (x : Int32) : Bool := decide (x = 32)
def plet (x : Int32) : Bool := decide (¬ wI x 97 122 = 0)
def pdig (x : Int32) : Bool := decide (¬ wI x 48 57 = 0)
theorem scan_ge (p : Int32 → Bool) (T : Nat → Int32) (n : Nat) : ∀ (f i : Nat), i ≤ scan p T n f i
  | 0, i => Nat.le_refl i
  | f + 1, i => by
    unfold scan
    split
    · exact Nat.le_trans (Nat.le_succ i) (scan_ge p T n f (i + 1))
    · exact Nat.le_refl i
theorem scan_le (p : Int32 → Bool) (T : Nat → Int32) (n : Nat) : ∀ (f i : Nat), i ≤ n → scan p T n f i ≤ n
  | 0, _, h => h
  | f + 1, i, h => by
    unfold scan
    split
    · rename_i q; exact scan_le p T n f (i + 1) q.1
    · exact h
/-- the class's number: where its digits end, and its value held down -/
def numC (T : Nat → Int32) (n : Nat) : Nat → Nat → Int32 → Nat × Int32
  | 0, k, v => (k, v)
  | f + 1, k, v => if k < n ∧ pdig (T k) = true then numC T n f (k + 1) (mn 101 (10 * v + T k - 48)) else (k, v)
theorem numC_1 (T : Nat → Int32) (n : Nat) : ∀ (f k : Nat) (v : Int32), (numC T n f k v).1 = scan pdig T n f k
  | 0, _, _ => rfl
  | f + 1, k, v => by
    unfold numC scan
    split
    · exact numC_1 T n f (k + 1) _
    · rfl
def failI (I : IM) (p w : Int32) : IM := iu I 8 8 (1 + 8 * p + w)
def numR (i j : Nat) (v : Int32) : Int32 := if nI j = nI i then -1 else if 3 < nI j - nI i then -1 else if v ≤ 100 then v else -1
def numI (I : IM) (i j : Nat) (v : Int32) : IM := if nI j = nI i then failI (iu I 8 7 (nI j)) (nI i) 0 else if 3 < nI j - nI i then failI (iu I 8 7 (nI j)) (nI i) 1 else if v ≤ 100 then iu I 8 7 (nI j) else failI (iu I 8 7 (nI j)) (nI i) 1
/-- bytes from a and b on are the same, m of them -/
def sameF (T : Nat → Int32) (a b : Nat) : Nat → Nat → Int32
  | 0, _ => 1
  | m + 1, k => if T (a + k) = T (b + k) then sameF T a b m (k + 1) else 0
/-- a word told before: words from k on, m of them -/
def toldF (T : Nat → Int32) (wf wb : Nat → Int32) (a b : Nat) : Nat → Nat → Int32
  | 0, _ => 0
  | m + 1, k => if wb k - wf k = nI b - nI a ∧ ¬ sameF T (ix (wf k)) a (b - a) 0 = 0 then 1 else toldF T wf wb a b m (k + 1)
def keepI (I : IM) (z : Nat) (a b lo hi : Int32) : IM := iu (iu (iu (iu (iu I 10 z a) 11 z b) 12 z lo) 13 z hi) 8 6 (I 8 6 + 1)
/-- the reference -/
def seeR (T : Nat → Int32) (n j : Nat) : Int32 := if j < n then T j &&& 255 else -1
def failsI (I : IM) (w p : Int32) : IM := if I 47 41 = 0 then iu I 47 41 (1 + 8 * p + w) else I
/-- the reference's number: digits' end, how many, the value of the first three -/
def numM (T : Nat → Int32) (n : Nat) : Nat → Nat → Int32 → Int32 → Nat × Int32 × Int32
  | 0, k, c, v => (k, c, v)
  | f + 1, k, c, v => if k < n ∧ pdig (T k) = true then numM T n f (k + 1) (c + 1) (if 3 ≤ c then v else 10 * v + T k - 48) else (k, c, v)
