/-! ===== loops: words ===== -/
def fillF (I : IM) (a n : Nat) (v : Int32) : IM := fun b j => if b = a ∧ j < n then v else I b j
theorem fillF_0 {I : IM} {a : Nat} {v : Int32} : fillF I a 0 v = I := by
  funext b j
  simp [fillF]
theorem fillF_s {I : IM} {a k : Nat} {v : Int32} : iu (fillF I a k v) a k v = fillF I a (k + 1) v := by
  funext b j
  simp only [iu, fillF]
  by_cases h1 : b = a
  · by_cases h2 : j = k
    · simp [h1, h2]
    · by_cases h3 : j < k
      · rw [if_neg (fun h => h2 h.2), if_pos ⟨h1, h3⟩, if_pos ⟨h1, by omega⟩]
      · rw [if_neg (fun h => h2 h.2), if_neg (fun h => h3 h.2), if_neg (fun h => by omega)]
  · simp [h1]
theorem lt_fuel {a b : Nat} (h : a + 1 < b + 1) : a < b := Nat.lt_of_succ_lt_succ h
/-- how many of the numbers from k on are p -/
def cntF (p : Nat → Bool) : Nat → Nat → Int32 → Int32
  | 0, _, c => c
  | m + 1, k, c => cntF p m (k + 1) (if p k = true then c + 1 else c)
def stc (I : IM) (pa : Nat → Nat) (g q : Int32) (k : Nat) : Bool := decide (I (pa k) 6 = 1) && (decide (I (pa k) 1 = g) && decide (I (pa k) 0 = q))
def stm (I : IM) (g q : Int32) (k : Nat) : Bool := decide (I 68 k = g) && (decide (I 67 k = q) && decide (I 71 k = 1))
section VD
variable {E : En} {X : Ctx} {Z : State → Prop} {cells slots : Nat} {sh : List Sh} {I : IM} {J : JM} {R : RM} {pc : Nat} {lv : List (Option Value)} {st : List Value}
theorem v_drop (i : Nat) (k : V E X Z cells slots sh I J R pc (lv.set i none) st) : V E X Z cells slots sh I J R pc lv st := by
  refine v_weak (lv.set i none) (by simp) (fun j v h => ?_) k
  by_cases hj : j = i
  · subst hj
    by_cases hl : j < lv.length
    · rw [List.getElem?_set_self hl] at h
      cases h
    · rw [List.getElem?_eq_none (by simp; omega)] at h
      cases h
  · rwa [List.getElem?_set_ne (Ne.symm hj)] at h
end VD
