/-! ===== the reference's words ===== -/
def cutN (m r f st : Int32) : Int32 := if m ≤ r - f then (if m ≤ 20000 - st then (if 0 ≤ m then m else 0) else (if 0 ≤ 20000 - st then 20000 - st else 0)) else (if r - f ≤ 20000 - st then (if 0 ≤ r - f then r - f else 0) else (if 0 ≤ 20000 - st then 20000 - st else 0))
def cutRm (I : IM) (m : Int32) : Int32 := if wI m 1 10000 = 0 then -1 else if I 47 0 = 5000 then -1 else cutN m (I 48 (ix (I 47 1))) (I 49 (ix (I 47 1))) (I 47 2)
def cutSm (I : IM) (w : Int32) : IM := iu (iu I 49 (ix (I 47 1)) (I 49 (ix (I 47 1)) + w)) 47 2 (I 47 2 + w)
def cutIm (I : IM) (m : Int32) : IM := if wI m 1 10000 = 0 then I else if I 47 0 = 5000 then I else cutSm I (cutN m (I 48 (ix (I 47 1))) (I 49 (ix (I 47 1))) (I 47 2))
def coldOkm (I : IM) (f t d : Int32) : Bool := !(I 47 8 == 20) && (!(wI f 0 t == 0) && (!(wI t 0 4999 == 0) && !(wI d 1 100 == 0)))
def spellIm (I : IM) (f t d : Int32) : IM := iu (iu (iu (iu I 50 (ix (I 47 8)) f) 51 (ix (I 47 8)) t) 52 (ix (I 47 8)) d) 47 8 (I 47 8 + 1)
def coldRm (I : IM) (f t d : Int32) : Int32 := if coldOkm I f t d then I 47 8 + 1 else -1
def coldIm (I : IM) (f t d : Int32) : IM := if coldOkm I f t d then spellIm I f t d else I
def endRm (L n : Int32) : Int32 := if n < 0 then -1 else if n ≤ L then n else -1
def endIm (I : IM) (n : Int32) : IM := if n < 0 then I else if n ≤ I 47 39 then iu I 47 39 n else I
def dropRm (I : IM) (p : Int32) : Int32 := if wI p 0 5 = 0 then -1 else if 0 ≤ I 53 (ix p) then I 54 (ix p) else -1
def dropIm (I : IM) (p : Int32) : IM := if wI p 0 5 = 0 then I else if 0 ≤ I 53 (ix p) then iu (iu I 47 5 (I 47 5 + I 54 (ix p))) 53 (ix p) (-1) else I
def rdym (d n : Int32) : Int32 := if d < n then 0 else 1
def potRm (I : IM) (p x : Int32) : Int32 := if wI p 0 5 = 0 then -1 else if 0 ≤ I 53 (ix p) then selT x [I 53 (ix p), I 54 (ix p), I 55 (ix p), I 56 (ix p), rdym (I 55 (ix p)) (I 56 (ix p)), I 57 (ix p)] else -1
def kindSm (I : IM) (k : Nat) (w m p c b h : Int32) : IM := iu (iu (iu (iu (iu (iu (iu I 58 k 1) 59 k w) 60 k m) 61 k p) 62 k c) 63 k b) 64 k h
def kindIm (I : IM) (k w m p c b h : Int32) : IM := if kindOk k w m p c b h then kindSm I (ix k) w m p c b h else I
def costRm (I : IM) (s y c : Int32) : Int32 := if costOk s y c then I 86 (ix (10 * s + y)) else -1
def costIm (I : IM) (s y c : Int32) : IM := if costOk s y c then iu I 86 (ix (10 * s + y)) c else I
def wayRm (I : IM) (a b c : Int32) : Int32 := if wayOk a b c then I 87 (ix (5 * a + b)) else -1
def wayIm (I : IM) (a b c : Int32) : IM := if wayOk a b c then iu I 87 (ix (5 * a + b)) c else I
def movedRm (I : IM) (y : Int32) : Int32 := if wI y 0 (I 47 56 - 1) = 0 then -1 else I 89 (ix y)
def shiftedRm (I : IM) (x : Int32) : Int32 := if wI x 0 6 = 0 then -1 else I 85 (ix x)
def pieceRm (I : IM) (k x : Int32) : Int32 := if wI k 0 (I 47 27 - 1) = 0 then -1 else selT x [I 67 (ix k), I 68 (ix k), I 69 (ix k), I 70 (ix k), I 71 (ix k), I 72 (ix k), I 73 (ix k)]
def countRm (I : IM) (x : Int32) : Int32 := if x < 0 ∨ 9 < x then (if wI x 10 12 = 0 then (if wI x 20 23 = 0 then (if wI x 30 34 = 0 then -1 else I 65 (ix (x - 30))) else I 66 (ix (x - 20))) else I 76 (ix (x - 10))) else selT x [I 47 0, I 47 4, I 47 2, I 47 1, I 49 (ix (I 47 1)), I 47 5, I 47 12, I 47 27, I 47 39, I 47 42]
def isOfF (t c w : Int32) : Int32 := if t = 0 then 0 else if c = -1 then 1 else if c = w then 1 else 0
theorem at_mulr {x y : Int32} {n m k : Nat} (hx : At x n (ix x)) (hy : At y m (ix y)) (hk : n * k < 2 ^ 31) (hm : m ≤ k) (hn : n < 2 ^ 31) (hkk : k < 2 ^ 31) (hn0 : 0 < n): At (nI k * x + y) (n * k) (ix (nI k * x + y)) ∧ nI k * x + y = nI (ix x * k + ix y) := by
  have h := at_mul hx hy hk hm hn hkk hn0
  rw [Int32.mul_comm x (nI k)] at h
  exact h
