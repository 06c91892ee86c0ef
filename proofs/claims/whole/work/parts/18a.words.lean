/-! ===== the text of spans, the reference: words ===== -/
def seeJ (I : IM) (n i : Nat) : Nat := scan pbl (I 77) n (n - i) i
def nbR (I : IM) (n i : Nat) (lo hi : Int32) : Int32 := if wI (seeR (I 77) n (seeJ I n i)) 48 57 = 0 then 0 else if 3 < (numM (I 77) n (n - seeJ I n i) (seeJ I n i) 0 0).2.1 then 0 else if wI (numM (I 77) n (n - seeJ I n i) (seeJ I n i) 0 0).2.2 lo hi = 0 then 0 else 1
def nbB (I : IM) (n i : Nat) : IM := iu (iu I 47 40 (nI (numM (I 77) n (n - seeJ I n i) (seeJ I n i) 0 0).1)) 47 50 (numM (I 77) n (n - seeJ I n i) (seeJ I n i) 0 0).2.2
def nbI (I : IM) (n i : Nat) (lo hi : Int32) : IM := if wI (seeR (I 77) n (seeJ I n i)) 48 57 = 0 then failsI (iu I 47 40 (nI (seeJ I n i))) 0 (nI (seeJ I n i)) else if 3 < (numM (I 77) n (n - seeJ I n i) (seeJ I n i) 0 0).2.1 then failsI (nbB I n i) 1 (nI (seeJ I n i)) else if wI (numM (I 77) n (n - seeJ I n i) (seeJ I n i) 0 0).2.2 lo hi = 0 then failsI (nbB I n i) 1 (nI (seeJ I n i)) else nbB I n i
def twF (T : Nat → Int32) (ra rs : Nat → Int32) (a b : Nat) : Nat → Nat → Int32
  | 0, _ => 0
  | m + 1, k => if rs k = nI b ∧ ¬ sameF T (ix (ra k)) a b 0 = 0 then 1 else twF T ra rs a b m (k + 1)
theorem sameF_01 (T : Nat → Int32) (a b : Nat) : ∀ (m k : Nat), sameF T a b m k = 0 ∨ sameF T a b m k = 1
  | 0, _ => Or.inr rfl
  | m + 1, k => by
    unfold sameF
    split
    · exact sameF_01 T a b m (k + 1)
    · exact Or.inl rfl
