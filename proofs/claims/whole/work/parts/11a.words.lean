/-! ===== blow: words ===== -/
section VE
variable {E : En} {X : Ctx} {Z : State → Prop} {cells slots : Nat} {sh sh2 : List Sh} {I : IM} {J : JM} {R R2 : RM} {pc : Nat} {lv : List (Option Value)} {st : List Value}
theorem v_eqR (h : R = R2) (k : V E X Z cells slots sh I J R2 pc lv st) : V E X Z cells slots sh I J R pc lv st := h ▸ k
theorem v_eqS (h : sh = sh2) (k : V E X Z cells slots sh2 I J R pc lv st) : V E X Z cells slots sh I J R pc lv st := h ▸ k
end VE
/-- nothing lies yet where no cell is -/
def Blank (sh : List Sh) (I : IM) (J : JM) (R : RM) : Prop := ∀ a, sh.length ≤ a → (∀ j, I a j = 0) ∧ (∀ j, J a j = 0) ∧ ∀ j, R a j = none
theorem Blank.i {sh : List Sh} {I : IM} {J : JM} {R : RM} (h : Blank sh I J R) : i0 I sh.length = I := by
  funext b j
  unfold i0
  split
  · rename_i e; rw [e]; exact ((h _ (Nat.le_refl _)).1 j).symm
  · rfl
theorem Blank.j {sh : List Sh} {I : IM} {J : JM} {R : RM} (h : Blank sh I J R) : j0 J sh.length = J := by
  funext b j
  unfold j0
  split
  · rename_i e; rw [e]; exact ((h _ (Nat.le_refl _)).2.1 j).symm
  · rfl
theorem Blank.r {sh : List Sh} {I : IM} {J : JM} {R : RM} (h : Blank sh I J R) : r0 R sh.length = R := by
  funext b j
  unfold r0
  split
  · rename_i e; rw [e]; exact ((h _ (Nat.le_refl _)).2.2 j).symm
  · rfl
theorem St.len {sh : List Sh} {R : RM} (h : St sh R) : 90 ≤ sh.length := by
  have := h.1 89 _ rfl
  have := (List.getElem?_eq_some_iff.mp this).1
  omega
theorem sh_app {sh : List Sh} {a : Nat} {x y : Sh} (h : sh[a]? = some x) : (sh ++ [y])[a]? = some x := by
  rw [List.getElem?_append_left (List.getElem?_eq_some_iff.mp h).1]
  exact h
theorem St.app {sh : List Sh} {R : RM} (h : St sh R) (y : Sh) : St (sh ++ [y]) R := ⟨fun a x hx => sh_app (h.1 a x hx), h.2⟩
theorem sh_lt {sh : List Sh} {a : Nat} {x : Sh} (h : sh[a]? = some x) : a < sh.length := (List.getElem?_eq_some_iff.mp h).1
theorem newP_ap {I : IM} {a b j : Nat} {k g n h w c : Int32} (hb : b ≠ a) : newP I a k g n h w c b j = I b j := by rw [newP_o hb]
theorem takeI_ap {I : IM} {a b j : Nat} {w : Int32} (hb : b ≠ a) : takeI I a w b j = I b j := by rw [takeI_o hb]
theorem newP_w {I : IM} {a : Nat} {k g n h w c : Int32} : newP I a k g n h w c a 4 = w := by simp [newP, iu_ap]
def blowB (I : IM) (q p kd gj : Nat) (k g : Int32) : IM := iu (takeI (iu (newP I q k g (I p 0) (I 0 11) (I kd 1) (I kd 6)) 37 gj (I 37 gj - I kd 2)) p (I kd 1)) kd 7 (I kd 7 + 1)
def blowX (I : IM) (q p kd gj : Nat) (k g : Int32) : IM := iu (iu (iu (blowB I q p kd gj k g) q 6 2) 0 12 (I 0 12 + I kd 1)) 0 14 (I 0 14 + 1)
def blowY (I : IM) (q p kd gj a : Nat) (k g y : Int32) : IM := iu (iu (iu (blowB I q p kd gj k g) q 7 y) a 1 (I a 1 + 1)) 0 14 (I 0 14 + 1)
def blowPQ (sh : List Sh) (I : IM) (J : JM) (R : RM) (p kd gj a b n c : Nat) (k g y : Int32) : CQ := fun v sh' I' J' R' => v = none ∧ sh' = sh ++ [.inl 6] ∧ J' = J ∧ ((¬ brk (I kd 5) (I kd 7 + 1) = 0 ∧ I' = blowX I sh.length p kd gj k g ∧ R' = ru R 38 n (some sh.length)) ∨ (brk (I kd 5) (I kd 7 + 1) = 0 ∧ I' = blowY I sh.length p kd gj a k g y ∧ R' = ru (ru R b c (some sh.length)) 38 n (some sh.length)))
theorem St.ruA {sh : List Sh} {R : RM} (h : St sh R) {a : Nat} (ha : ptrT[a]? = some []) (k : Nat) (x : Option Nat) : St sh (ru R a k x) := by
  refine ⟨h.1, fun b j c hb => ?_⟩
  have hne : b ≠ a := by
    rintro rfl
    unfold ptr at hb
    rw [ha] at hb
    simp at hb
  rw [ru_o hne]
  exact h.2 b j c hb
theorem St.ruB {sh : List Sh} {R : RM} (h : St sh R) {y : Nat} (hy : y < 3) (k : Nat) (x : Option Nat) : St sh (ru R (32 + 2 * y) k x) := by
  rcases (show y = 0 ∨ y = 1 ∨ y = 2 by omega) with rfl | rfl | rfl <;> exact h.ruA rfl k x
