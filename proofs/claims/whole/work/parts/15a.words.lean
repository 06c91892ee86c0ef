/-! ===== move: words ===== -/
theorem idx5 (s t : Nat) : nI s * 5 + nI t = nI (s * 5 + t) := by
  rw [show (5 : Int32) = nI 5 from rfl, pk_mul, nI_add]
theorem idx5r (s t : Nat) : 5 * nI s + nI t = nI (5 * s + t) := by
  rw [show (5 : Int32) = nI 5 from rfl, pk_mul, nI_add]
theorem idx10r (s t : Nat) : 10 * nI s + nI t = nI (10 * s + t) := by
  rw [show (10 : Int32) = nI 10 from rfl, pk_mul, nI_add]
def sb (I : IM) (s y t : Nat) : Int32 := I 44 (s * 5 + t) + I 45 (y * 5 + t)
def nsF (f : Nat → Int32) : Nat := if f (if f (if f (if f 0 ≤ f 1 then 0 else 1) ≤ f 2 then (if f 0 ≤ f 1 then 0 else 1) else 2) ≤ f 3 then (if f (if f 0 ≤ f 1 then 0 else 1) ≤ f 2 then (if f 0 ≤ f 1 then 0 else 1) else 2) else 3) ≤ f 4 then (if f (if f (if f 0 ≤ f 1 then 0 else 1) ≤ f 2 then (if f 0 ≤ f 1 then 0 else 1) else 2) ≤ f 3 then (if f (if f 0 ≤ f 1 then 0 else 1) ≤ f 2 then (if f 0 ≤ f 1 then 0 else 1) else 2) else 3) else 4
theorem nsF_lt (f : Nat → Int32) : nsF f < 5 := by
  unfold nsF
  repeat' split
  all_goals omega
def lst (mm y : Nat) (I : IM) (s : Nat) : IM := iu I 45 (y * 5 + s) (I 43 (y * 5 + s) + (if y + 1 < mm then sb I s (y + 1) (nsF (sb I s (y + 1))) else 0))
def rowF (mm y : Nat) (I : IM) : IM := lst mm y (lst mm y (lst mm y (lst mm y (lst mm y I 0) 1) 2) 3) 4
def planL (mm : Nat) : Nat → IM → IM
  | 0, I => I
  | m + 1, I => planL mm m (rowF mm m I)
def chM : Nat → Nat → Nat → IM → IM
  | 0, _, _, I => I
  | m + 1, q, s, I => chM m (q + 1) (nsF (sb I s q)) (iu I 46 q (nI (nsF (sb I s q))))
theorem chM_k : ∀ (m q s : Nat) (I : IM) (j : Nat), j < q → chM m q s I 46 j = I 46 j
  | 0, _, _, _, _, _ => rfl
  | m + 1, q, s, I, j, h => by
    show chM m (q + 1) _ _ 46 j = I 46 j
    rw [chM_k m (q + 1) _ _ j (by omega), iu_k (by omega)]
theorem chM_0 {m s : Nat} {I : IM} (h : 0 < m) : chM m 0 s I 46 0 = nI (nsF (sb I s 0)) := by
  cases m with
  | zero => omega
  | succ m =>
    show chM m 1 _ _ 46 0 = _
    rw [chM_k m 1 _ _ 0 (by omega), iu_same]
def planI (I : IM) (mm s : Nat) : IM := chM mm 0 s (iu (planL mm mm I) 42 4 (nI mm))
def planR (I : IM) (mm s : Nat) : Int32 := sb (planI I mm s) s 0 (nsF (sb (iu (planL mm mm I) 42 4 (nI mm)) s 0))
def moveR (I : IM) (y : Int32) : Int32 := if wI y 1 10 = 0 then -1 else planR I (ix y) (ix (I 1 2))
def moveI (I : IM) (y : Int32) : IM := if wI y 1 10 = 0 then I else planI I (ix y) (ix (I 1 2))
theorem yrs {h : Int32} (hw : ¬ wI h 1 10 = 0) : h = nI (ix h) ∧ 1 ≤ ix h ∧ ix h ≤ 10 := by
  have a := wI_int hw
  have e1 : (1 : Int32).toInt = 1 := by decide
  have e2 : (10 : Int32).toInt = 10 := by decide
  rw [e1, e2] at a
  have hat : At h 11 (ix h) := ⟨rfl, by rw [vp_in_iff]; omega⟩
  have he := hat.eq (by decide)
  have h1 : ix h ≠ 0 := by
    intro h0
    rw [h0] at he
    rw [he] at a
    have : (nI 0).toInt = 0 := by decide
    omega
  exact ⟨he, by omega, by have := hat.lt; omega⟩
