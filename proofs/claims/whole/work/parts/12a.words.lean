/-! ===== the reference's blow and open, the class's piece: words ===== -/
theorem wI_n {x : Int32} {n : Nat} (h : ¬ wI x 0 (nI n - 1) = 0) (hn : n < 2 ^ 31) : At x n (ix x) := by
  cases n with
  | zero =>
    have h1 := wI_int h
    have e0 : (0 : Int32).toInt = 0 := by decide
    have e1 : (nI 0 - 1).toInt = -1 := by decide
    rw [e0, e1] at h1
    omega
  | succ m =>
    rw [nI_pred] at h
    exact wI_at h (by rw [nI_toInt (by omega)]; omega)
def pieceR (I : IM) (pa : Nat → Nat) (k x : Int32) : Int32 := if wI k 0 (I 0 14 - 1) = 0 then -1 else selT x [I (pa (ix k)) 0, I (pa (ix k)) 1, I (pa (ix k)) 2, I (pa (ix k)) 3, I (pa (ix k)) 6, I (pa (ix k)) 7, I (pa (ix k)) 8]
def fbRm (x y z : Int32) : Int32 := if 20 ≤ x then (if 20 ≤ y then (if 20 ≤ z then -1 else 2) else 1) else 0
def blowRm (I : IM) (g k p : Int32) : Int32 := if wI g 0 3 = 0 then 1 else if wI p 0 5 = 0 then 1 else if wI k 0 4 = 0 then 1 else if I 58 (ix k) = 0 then 1 else if I 47 0 = 5000 then 1 else if I 53 (ix p) < 0 then 2 else if rdym (I 55 (ix p)) (I 56 (ix p)) = 0 then 2 else if 900 ≤ I 47 4 then (if I 62 (ix k) = -1 ∨ I 62 (ix k) = I 57 (ix p) then (if I 59 (ix k) ≤ I 54 (ix p) then (if I 60 (ix k) ≤ I 66 (ix g) then (if fbRm (I 76 0) (I 76 1) (I 76 2) < 0 then 7 else if I 47 27 = 1000 then 7 else 0) else 6) else 5) else 4) else 3
def blowBm (I : IM) (n p gj kk : Nat) (g k : Int32) : IM := iu (iu (iu (iu (iu (iu (iu (iu (iu (iu I 54 p (I 54 p - I 59 kk)) 66 gj (I 66 gj - I 60 kk)) 65 kk (I 65 kk + 1)) 67 n k) 68 n g) 69 n (I 53 p)) 70 n (I 47 0)) 75 n (I 59 kk)) 74 n (I 64 kk)) 73 n 0
def blowCm (I : IM) (n p gj kk : Nat) (g k y : Int32) : IM := if brk (I 63 kk) (I 65 kk + 1) = 0 then iu (iu (iu (blowBm I n p gj kk g k) 71 n 0) 72 n y) 76 (ix y) (I 76 (ix y) + 1) else iu (iu (iu (blowBm I n p gj kk g k) 71 n 2) 72 n (-1)) 47 5 (I 47 5 + I 59 kk)
def blowFm (I : IM) (n p gj kk : Nat) (g k y : Int32) : IM := if I 54 p - I 59 kk = 0 then iu (iu (blowCm I n p gj kk g k y) 47 27 (I 47 27 + 1)) 53 p (-1) else iu (blowCm I n p gj kk g k y) 47 27 (I 47 27 + 1)
def blowIm (I : IM) (n : Nat) (g k p : Int32) : IM := if blowRm I g k p = 0 then blowFm I n (ix p) (ix g) (ix k) g k (fbRm (I 76 0) (I 76 1) (I 76 2)) else I
theorem fbRm_at {x y z : Int32} (h : ¬ fbRm x y z < 0) : At (fbRm x y z) 3 (ix (fbRm x y z)) := by
  unfold fbRm at h ⊢
  repeat' split at h
  all_goals first | exact absurd (by decide) h | skip
  all_goals simp only [*, if_true, if_false]
  all_goals exact at_c rfl
/-- all pieces of bay b break -/
def opM (b : Int32) : Nat → Nat → IM → Int32 → IM × Int32
  | 0, _, I, c => (I, c)
  | m + 1, k, I, c => if I 71 k = 0 ∧ I 72 k = b then opM b m (k + 1) (iu (iu I 71 k 3) 47 5 (I 47 5 + I 75 k)) (c + 1) else opM b m (k + 1) I c
def openRm (I : IM) (n : Nat) (y : Int32) : Int32 := if wI y 0 2 = 0 then -1 else (opM y n 0 I 0).2
def openIm (I : IM) (n : Nat) (y : Int32) : IM := if wI y 0 2 = 0 then I else iu (opM y n 0 I 0).1 76 (ix y) 0
