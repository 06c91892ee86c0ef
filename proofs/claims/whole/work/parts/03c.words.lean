abbrev ix (x : Int32) : Nat := x.toNatClampNeg
theorem iu_ap (I : IM) (a k : Nat) (x : Int32) (b j : Nat) : iu I a k x b j = if b = a ∧ j = k then x else I b j := rfl
theorem ru_ap (R : RM) (a k : Nat) (x : Option Nat) (b j : Nat) : ru R a k x b j = if b = a ∧ j = k then x else R b j := rfl
def mx (x y : Int32) : Int32 := if x < y then y else x
def mn (x y : Int32) : Int32 := if y < x then y else x
/-- right: at the row A -/
def rightR (I : IM) (A : Nat) (s m : Int32) : Int32 := if wI s 0 4 = 0 then -1 else if wI m 0 10000 = 0 then -1 else I A (ix s)
def rightI (I : IM) (A : Nat) (s m : Int32) : IM := if wI s 0 4 = 0 then I else if wI m 0 10000 = 0 then I else iu I A (ix s) m
/-- cut, the class's way -/
def fellW (m r f st : Int32) : Int32 := mn m (mn (mx 0 (r - f)) (20000 - st))
def cutR (I : IM) (m : Int32) : Int32 := if wI m 1 10000 = 0 then -1 else if endF (I 0 11) = 0 then fellW m (I 2 (ix (I 1 2))) (I 3 (ix (I 1 2))) (I 1 3) else -1
def fellI (I : IM) (m : Int32) : IM := iu (iu I 3 (ix (I 1 2)) (I 3 (ix (I 1 2)) + fellW m (I 2 (ix (I 1 2))) (I 3 (ix (I 1 2))) (I 1 3))) 1 3 (I 1 3 + fellW m (I 2 (ix (I 1 2))) (I 3 (ix (I 1 2))) (I 1 3))
def cutI (I : IM) (m : Int32) : IM := if wI m 1 10000 = 0 then I else if endF (I 0 11) = 0 then fellI I m else I
/-- rate: at the field k of A -/
def rateR (I : IM) (A k : Nat) (r : Int32) : Int32 := if wI r 0 20 = 0 then -1 else I A k
def rateI (I : IM) (A k : Nat) (r : Int32) : IM := if wI r 0 20 = 0 then I else iu I A k r
/-- cold, the class's way -/
def coldOk (f t d : Int32) : Bool := !(wI f 0 4999 == 0) && (!(wI t f 4999 == 0) && !(wI d 1 100 == 0))
def spellI (I : IM) (f t d : Int32) : IM := iu (iu (iu (iu I 5 (ix (I 4 3)) f) 6 (ix (I 4 3)) t) 7 (ix (I 4 3)) d) 4 3 (I 4 3 + 1)
def coldR (I : IM) (f t d : Int32) : Int32 := if coldOk f t d then (if I 4 3 < 20 then I 4 3 + 1 else -1) else -1
def coldI (I : IM) (f t d : Int32) : IM := if coldOk f t d then (if I 4 3 < 20 then spellI I f t d else I) else I
/-- buy: the heap at A k -/
def buyR (I : IM) (A k : Nat) (b : Int32) : Int32 := if wI b 1 5000 = 0 then -1 else if I A k + b ≤ 100000 then I A k + b else -1
def buyI (I : IM) (A k : Nat) (b : Int32) : IM := if wI b 1 5000 = 0 then I else if I A k + b ≤ 100000 then iu I A k (I A k + b) else I
/-- drop, the class's way -/
def dropR (I : IM) (p : Int32) : Int32 := if wI p 0 5 = 0 then -1 else if emp (I (18 + ix p) 0) = 0 then I (18 + ix p) 1 else -1
def dropI (I : IM) (p : Int32) : IM := if wI p 0 5 = 0 then I else if emp (I (18 + ix p) 0) = 0 then iu (clearI I (18 + ix p)) 0 12 (I 0 12 + I (18 + ix p) 1) else I
/-- kind: what is told -/
def kindOk (k w m p c b h : Int32) : Bool := !(wI k 0 4 == 0) && (!(wI w 1 50 == 0) && (!(wI m 1 60 == 0) && (!(wI p 1 10000 == 0) && (!(wI c (-1) 7 == 0) && ((b == 0 || !(wI b 2 50 == 0)) && !(wI h 1 40 == 0))))))
def kindS (I : IM) (a : Nat) (w m p c b h : Int32) : IM := iu (iu (iu (iu (iu (iu (iu I a 0 1) a 1 w) a 2 m) a 3 p) a 4 c) a 5 b) a 6 h
def kindR (k w m p c b h : Int32) : Int32 := if kindOk k w m p c b h then 1 else 0
def kindI (I : IM) (k w m p c b h : Int32) : IM := if kindOk k w m p c b h then kindS I (25 + ix k) w m p c b h else I
def potR (I : IM) (p x : Int32) : Int32 := if wI p 0 5 = 0 then -1 else potT0 (I (18 + ix p) 0) (I (18 + ix p) 1) (I (18 + ix p) 2) (I (18 + ix p) 3) (I (18 + ix p) 4) x
  where potT0 (b g d n c x : Int32) : Int32 := if b = -1 then -1 else selT x [b, g, d, n, rdy b d n, c]
/-- cost and way: at the row A -/
def costOk (s y c : Int32) : Bool := !(wI s 0 4 == 0) && (!(wI y 0 9 == 0) && !(wI c 0 100000 == 0))
def wayOk (a b c : Int32) : Bool := !(wI a 0 4 == 0) && (!(wI b 0 4 == 0) && (!(a == b) && !(wI c 0 100000 == 0)))
def costR (I : IM) (s y c : Int32) : Int32 := if costOk s y c then I 43 (ix (y * 5 + s)) else -1
def costI (I : IM) (s y c : Int32) : IM := if costOk s y c then iu I 43 (ix (y * 5 + s)) c else I
def wayR (I : IM) (a b c : Int32) : Int32 := if wayOk a b c then I 44 (ix (a * 5 + b)) else -1
def wayI (I : IM) (a b c : Int32) : IM := if wayOk a b c then iu I 44 (ix (a * 5 + b)) c else I
def movedR (I : IM) (y : Int32) : Int32 := if wI y 0 (I 42 4 - 1) = 0 then -1 else I 46 (ix y)
def endR (L n : Int32) : Int32 := if wI n 0 L = 0 then -1 else n
def endI (I : IM) (A k : Nat) (n : Int32) : IM := if wI n 0 (I A k) = 0 then I else iu I A k n
/-- shifted, the class's way -/
def shiftedR (I : IM) (x : Int32) : Int32 := if I 39 5 = 0 then -1 else if wI x 0 4 = 0 then (if x = 5 then I 39 6 else if x = 6 then I 39 7 else -1) else I 41 (ix x)
/-- count, the class's way -/
def countR (I : IM) (x : Int32) : Int32 := if wI x 10 12 = 0 then (if wI x 20 23 = 0 then (if wI x 30 34 = 0 then selT x [I 0 11, I 4 5, I 1 3, I 1 2, I 3 (ix (I 1 2)), I 0 12, I 0 13, I 0 14, I 8 5, I 14 2] else I (25 + ix (x - 30)) 7) else I 37 (ix (x - 20))) else I (31 + 2 * ix (x - 10)) 1
/-- go, the class's way -/
theorem wI_off {x lo hi : Int32} {n : Nat} (h : ¬ wI x lo hi = 0) (hl : 0 ≤ lo.toInt) (hn : hi.toInt - lo.toInt < n) : At (x - lo) n (ix (x - lo)) := by
  obtain ⟨h1, h2⟩ := wI_1 h
  rw [Int32.le_iff_toInt_le] at h1 h2
  have e : (x - lo).toInt = x.toInt - lo.toInt := by
    rw [Int32.toInt_sub]
    have := x.toInt_lt
    have := x.le_toInt
    apply Int.bmod_eq_of_le <;> omega
  refine ⟨rfl, ?_⟩
  rw [vp_in_iff, e]
  omega
theorem at_mul {x y : Int32} {n m k : Nat} (hx : At x n (ix x)) (hy : At y m (ix y)) (hk : n * k < 2 ^ 31) (hm : m ≤ k) (hn : n < 2 ^ 31) (hkk : k < 2 ^ 31) (hn0 : 0 < n): At (x * nI k + y) (n * k) (ix (x * nI k + y)) ∧ x * nI k + y = nI (ix x * k + ix y) := by
  have ex := hx.eq hn
  have ey := hy.eq (Nat.lt_of_le_of_lt hm hkk)
  have lx := hx.lt
  have ly := hy.lt
  have e : x * nI k + y = nI (ix x * k + ix y) := by
    conv => lhs; rw [ex, ey]
    rw [pk_mul, nI_add]
  have hlt : ix x * k + ix y < n * k := by
    have h1 : (ix x + 1) * k ≤ n * k := Nat.mul_le_mul_right k lx
    have h2 : (ix x + 1) * k = ix x * k + k := Nat.succ_mul _ _
    omega
  refine ⟨?_, e⟩
  have h3 := at_nI hlt hk
  rw [e]
  exact ⟨rfl, h3.2⟩
