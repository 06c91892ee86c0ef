/-! ===== the relation kept: move ===== -/
theorem ns_step (f : Nat → Int32) (b t : Nat) : f (if f b ≤ f t then b else t) = mi (f b) (f t) := by
  unfold mi
  split <;> rfl
theorem nsF_val (f : Nat → Int32) : f (nsF f) = frF f := by
  unfold nsF frF
  rw [mi_max, ns_step f, ns_step f, ns_step f, ns_step f]
def nsP (f : Nat → Int32) (b n : Nat) : Prop := b < n ∧ ∀ t, t < n → f b ≤ f t ∧ (t < b → ¬ f t = f b)
theorem nsP.step {f : Nat → Int32} {b n : Nat} (h : nsP f b n) : nsP f (if f b ≤ f n then b else n) (n + 1) := by
  obtain ⟨h1, h2⟩ := h
  split
  · rename_i g
    refine ⟨by omega, fun t ht => ?_⟩
    by_cases e : t = n
    · subst e; exact ⟨g, fun q => by omega⟩
    · exact h2 t (by omega)
  · rename_i g
    refine ⟨by omega, fun t ht => ?_⟩
    rw [Int32.le_iff_toInt_le] at g
    by_cases e : t = n
    · subst e; exact ⟨Int32.le_refl _, fun q => by omega⟩
    · have q := (h2 t (by omega)).1
      rw [Int32.le_iff_toInt_le] at q
      refine ⟨by rw [Int32.le_iff_toInt_le]; omega, fun _ e2 => ?_⟩
      rw [e2] at q
      omega
theorem nsF_p (f : Nat → Int32) : nsP f (nsF f) 5 := by
  have h0 : nsP f 0 1 := ⟨by decide, fun t ht => by
    obtain rfl : t = 0 := by omega
    exact ⟨Int32.le_refl _, fun q => by omega⟩⟩
  exact (((h0.step).step).step).step
theorem fs_ns (f : Nat → Int32) : fsF f (frF f) = nsF f := by
  have hp := nsF_p f
  have hv := nsF_val f
  generalize nsF f = m at hp hv
  rw [← hv]
  obtain ⟨h1, h2⟩ := hp
  unfold fsF
  rcases (show m = 0 ∨ m = 1 ∨ m = 2 ∨ m = 3 ∨ m = 4 by omega) with rfl | rfl | rfl | rfl | rfl
  · rw [if_pos rfl]
  · rw [if_neg ((h2 0 (by decide)).2 (by decide)), if_pos rfl]
  · rw [if_neg ((h2 0 (by decide)).2 (by decide)), if_neg ((h2 1 (by decide)).2 (by decide)), if_pos rfl]
  · rw [if_neg ((h2 0 (by decide)).2 (by decide)), if_neg ((h2 1 (by decide)).2 (by decide)), if_neg ((h2 2 (by decide)).2 (by decide)), if_pos rfl]
  · rw [if_neg ((h2 0 (by decide)).2 (by decide)), if_neg ((h2 1 (by decide)).2 (by decide)), if_neg ((h2 2 (by decide)).2 (by decide)), if_neg ((h2 3 (by decide)).2 (by decide))]
def cut5 (f : Nat → Int32) : Nat → Int32 := fun t => if t < 5 then f t else 0
theorem nsF_cut (f : Nat → Int32) : nsF (cut5 f) = nsF f ∧ frF (cut5 f) = frF f := by
  have e0 : cut5 f 0 = f 0 := rfl
  have e1 : cut5 f 1 = f 1 := rfl
  have e2 : cut5 f 2 = f 2 := rfl
  have e3 : cut5 f 3 = f 3 := rfl
  have e4 : cut5 f 4 = f 4 := rfl
  refine ⟨?_, by unfold frF; rw [e0, e1, e2, e3, e4]⟩
  have hc : ∀ t, t < 5 → cut5 f t = f t := fun t ht => if_pos ht
  have h1 := nsF_p f
  have h2 := nsF_p (cut5 f)
  have a := (h2.2 (nsF f) h1.1).1
  have b := (h1.2 (nsF (cut5 f)) h2.1).1
  rw [hc _ h1.1, hc _ h2.1] at a
  have e : f (nsF (cut5 f)) = f (nsF f) := by
    rw [Int32.le_iff_toInt_le] at a b
    exact Int32.toInt_inj.mp (by omega)
  rcases Nat.lt_trichotomy (nsF (cut5 f)) (nsF f) with g | g | g
  · exact absurd e ((h1.2 _ h2.1).2 g)
  · exact g
  · have := (h2.2 (nsF f) h1.1).2 g
    rw [hc _ h1.1, hc _ h2.1] at this
    exact absurd e.symm this
theorem ns_c {f g : Nat → Int32} (h : ∀ t, t < 5 → f t = g t) : nsF f = nsF g ∧ frF f = frF g := by
  have e : cut5 f = cut5 g := by
    funext t
    unfold cut5
    split
    · rename_i ht; exact h t ht
    · rfl
  exact ⟨(nsF_cut f).1.symm.trans ((congrArg nsF e).trans (nsF_cut g).1), (nsF_cut f).2.symm.trans ((congrArg frF e).trans (nsF_cut g).2)⟩
/-- the class's rows -/
def cval (mm : Nat) (I : IM) (y s : Nat) : Int32 := I 43 (y * 5 + s) + (if y + 1 < mm then sb I s (y + 1) (nsF (sb I s (y + 1))) else 0)
theorem cval_c {mm : Nat} {I I' : IM} {y s : Nat} (h1 : I' 43 = I 43) (h2 : I' 44 = I 44) (h3 : ∀ j, (y + 1) * 5 ≤ j → I' 45 j = I 45 j) : cval mm I' y s = cval mm I y s := by
  have e : sb I' s (y + 1) = sb I s (y + 1) := by
    funext t
    unfold sb
    rw [h2, h3 _ (by omega)]
  unfold cval
  rw [e, h1]
theorem lst_eq {mm y s : Nat} {I : IM} : lst mm y I s = iu I 45 (y * 5 + s) (cval mm I y s) := rfl
theorem rowF_eq {mm y : Nat} {I : IM} : (∀ a, a ≠ 45 → rowF mm y I a = I a) ∧ (∀ j, j < y * 5 ∨ y * 5 + 5 ≤ j → rowF mm y I 45 j = I 45 j) ∧ ∀ s, s < 5 → rowF mm y I 45 (y * 5 + s) = cval mm I y s := by
  have key : ∀ (I' : IM) (s t : Nat), s < 5 → cval mm (iu I' 45 (y * 5 + s) (cval mm I' y s)) y t = cval mm I' y t := fun I' s t hs =>
    cval_c (iu_ne 43 (by decide)) (iu_ne 44 (by decide)) (fun j hj => iu_k (by omega))
  refine ⟨fun a ha => ?_, fun j hj => ?_, fun s hs => ?_⟩
  · unfold rowF
    rw [lst_eq, lst_eq, lst_eq, lst_eq, lst_eq, iu_ne a ha, iu_ne a ha, iu_ne a ha, iu_ne a ha, iu_ne a ha]
  · unfold rowF
    rw [lst_eq, lst_eq, lst_eq, lst_eq, lst_eq, iu_k (by omega), iu_k (by omega), iu_k (by omega), iu_k (by omega), iu_k (by omega)]
  · unfold rowF
    rw [lst_eq, lst_eq, lst_eq, lst_eq, lst_eq]
    rcases (show s = 0 ∨ s = 1 ∨ s = 2 ∨ s = 3 ∨ s = 4 by omega) with rfl | rfl | rfl | rfl | rfl
    · rw [iu_k (by omega), iu_k (by omega), iu_k (by omega), iu_k (by omega), iu_same]
    · rw [iu_k (by omega), iu_k (by omega), iu_k (by omega), iu_same, key _ _ _ (by decide)]
    · rw [iu_k (by omega), iu_k (by omega), iu_same, key _ _ _ (by decide), key _ _ _ (by decide)]
    · rw [iu_k (by omega), iu_same, key _ _ _ (by decide), key _ _ _ (by decide), key _ _ _ (by decide)]
    · rw [iu_same, key _ _ _ (by decide), key _ _ _ (by decide), key _ _ _ (by decide), key _ _ _ (by decide)]
def CR (mm m : Nat) (I : IM) : Prop := ∀ y, m ≤ y → y < mm → ∀ s, s < 5 → I 45 (y * 5 + s) = cval mm I y s
theorem CR.step {mm m : Nat} {I : IM} (h : CR mm (m + 1) I) : CR mm m (rowF mm m I) := by
  obtain ⟨r1, r2, r3⟩ := rowF_eq (mm := mm) (y := m) (I := I)
  intro y h1 h2 s hs
  have ec : cval mm (rowF mm m I) y s = cval mm I y s := cval_c (r1 43 (by decide)) (r1 44 (by decide)) (fun j hj => r2 j (by omega))
  rw [ec]
  by_cases e : y = m
  · subst e; exact r3 s hs
  · rw [r2 _ (by omega)]
    exact h y (by omega) h2 s hs
theorem CR.plan {mm : Nat} : ∀ (m : Nat) (I : IM), CR mm m I → CR mm 0 (planL mm m I)
  | 0, _, h => h
  | m + 1, I, h => CR.plan m (rowF mm m I) h.step
theorem planL_o {mm : Nat} : ∀ (m : Nat) (I : IM) (a : Nat), a ≠ 45 → planL mm m I a = I a
  | 0, _, _, _ => rfl
  | m + 1, I, a, h => (planL_o m (rowF mm m I) a h).trans (rowF_eq.1 a h)
theorem chM_o : ∀ (m q s : Nat) (I : IM) (a : Nat), a ≠ 46 → chM m q s I a = I a
  | 0, _, _, _, _, _ => rfl
  | m + 1, q, s, I, a, h => (chM_o m (q + 1) _ _ a h).trans (iu_ne a h)
theorem sb_c {I I' : IM} {s y : Nat} (h1 : I' 44 = I 44) (h2 : I' 45 = I 45) : sb I' s y = sb I s y := by
  funext t
  unfold sb
  rw [h1, h2]
theorem vF_c {I I' : IM} {s y : Nat} (h1 : I' 86 = I 86) (h2 : I' 87 = I 87) (h3 : I' 88 = I 88) : vF I' y s = vF I y s := by
  funext t
  unfold vF
  rw [h1, h2, h3]
/-- both sides find the same sums -/
def SV (mm : Nat) (Ic Im : IM) : Prop := ∀ y, y < mm → ∀ s t, s < 5 → t < 5 → sb Ic s y t = vF Im y s t
theorem sums_eq {mm : Nat} {Ic Im : IM} (hm : mm ≤ 10) (hc : CR mm 0 Ic) (hr : Rows mm 0 Im) (hz : ∀ t, t < 5 → Im 88 (5 * mm + t) = 0) (hco : ∀ s y, s < 5 → y < 10 → Im 86 (10 * s + y) = Ic 43 (y * 5 + s)) (hw : Im 87 = Ic 44) : SV mm Ic Im := by
  have key : ∀ d y, y + d + 1 = mm → ∀ s t, s < 5 → t < 5 → sb Ic s y t = vF Im y s t := by
    intro d
    induction d with
    | zero =>
      intro y hy s t hs ht
      unfold sb vF
      rw [hc y (Nat.zero_le _) (by omega) t ht]
      unfold cval
      rw [if_neg (by omega), hw, hco t y ht (by omega), show 5 * (y + 1) + t = 5 * mm + t by omega, hz t ht, show 5 * s + t = s * 5 + t by omega, Int32.add_zero, Int32.add_zero]
    | succ d ih =>
      intro y hy s t hs ht
      have hx := ns_c (f := sb Ic t (y + 1)) (g := vF Im (y + 1) t) (fun u hu => ih (y + 1) (by omega) t u ht hu)
      have e1 : sb Ic t (y + 1) (nsF (sb Ic t (y + 1))) = Im 88 (5 * (y + 1) + t) := by
        rw [nsF_val (sb Ic t (y + 1)), hx.2]
        exact (hr (y + 1) (Nat.zero_le _) (by omega) t ht).symm
      unfold vF
      rw [← e1]
      show Ic 44 (s * 5 + t) + Ic 45 (y * 5 + t) = _
      rw [hc y (Nat.zero_le _) (by omega) t ht]
      unfold cval
      rw [if_pos (by omega), hw, hco t y ht (by omega), show 5 * s + t = s * 5 + t by omega, Int32.add_assoc]
  intro y hy s t hs ht
  exact key (mm - 1 - y) y (by omega) s t hs ht
theorem way_eq {mm : Nat} : ∀ (m q s : Nat) (Ic Im : IM), q + m = mm → s < 5 → SV mm Ic Im → Rows mm 0 Im → Im 89 = Ic 46 → mvM m q s Im 89 = chM m q s Ic 46
  | 0, _, _, _, _, _, _, _, _, h => h
  | m + 1, q, s, Ic, Im, hq, hs, hS, hR, h => by
    have hx := ns_c (f := sb Ic s q) (g := vF Im q s) (fun u hu => hS q (by omega) s u hs hu)
    have e : fsF (vF Im q s) (Im 88 (5 * q + s)) = nsF (sb Ic s q) := by
      rw [hR q (Nat.zero_le _) (by omega) s hs, fs_ns, hx.1]
    show mvM m (q + 1) (fsF (vF Im q s) (Im 88 (5 * q + s))) (iu Im 89 q (nI (fsF (vF Im q s) (Im 88 (5 * q + s))))) 89 = chM m (q + 1) (nsF (sb Ic s q)) (iu Ic 46 q (nI (nsF (sb Ic s q)))) 46
    rw [e]
    refine way_eq (mm := mm) m (q + 1) _ _ _ (by omega) (nsF_lt _) (fun y hy s t hs ht => ?_) (fun y h1 h2 s hs => ?_) ?_
    · rw [sb_c (I := Ic) (iu_ne 44 (by decide)) (iu_ne 45 (by decide)), vF_c (I := Im) (iu_ne 86 (by decide)) (iu_ne 87 (by decide)) (iu_ne 88 (by decide))]
      exact hS y hy s t hs ht
    · rw [vF_c (I := Im) (iu_ne 86 (by decide)) (iu_ne 87 (by decide)) (iu_ne 88 (by decide)), iu_ne 88 (by decide)]
      exact hR y h1 h2 s hs
    · funext j
      simp only [iu_ap, h]
theorem zrow_89 {yy : Nat} {I : IM} {t : Nat} (ht : t < 5) : zrow yy I 88 (5 * yy + t) = 0 := by
  unfold zrow
  rcases (show t = 0 ∨ t = 1 ∨ t = 2 ∨ t = 3 ∨ t = 4 by omega) with rfl | rfl | rfl | rfl | rfl <;> simp [iu_ap]
theorem zrow_o {yy a : Nat} {I : IM} (h : a ≠ 88) : zrow yy I a = I a := by
  unfold zrow
  rw [iu_ne a h, iu_ne a h, iu_ne a h, iu_ne a h, iu_ne a h]
theorem planM_hi : ∀ (m : Nat) (I : IM) (j : Nat), 5 * m ≤ j → planM m I 88 j = I 88 j
  | 0, _, _, _ => rfl
  | m + 1, I, j, h => (planM_hi m (frow m I) j (by omega)).trans (frow_o (Or.inr (Or.inr (by omega))))
theorem planM_oo (m : Nat) (I : IM) (a : Nat) (h : a ≠ 88) : planM m I a = I a := funext (fun j => planM_o m I a j h)
theorem mvM_oo (m q s : Nat) (I : IM) (a : Nat) (h : a ≠ 89) : mvM m q s I a = I a := funext (fun j => mvM_o m q s I a j h)
section RelMv
variable {sh : List Sh} {I : IM} {J : JM} {R : RM} {c : Nat}
theorem planI_o {mm s a : Nat} (h : a ≠ 42) (h1 : a ≠ 45) (h2 : a ≠ 46) : planI I mm s a = I a := by
  unfold planI
  rw [chM_o _ _ _ _ _ h2, iu_ne a h, planL_o _ _ _ h1]
theorem moveIm_o {mm s a : Nat} (h : a ≠ 47) (h1 : a ≠ 88) (h2 : a ≠ 89) : moveIm I mm s a = I a := by
  unfold moveIm
  rw [iu_ne a h, mvM_oo _ _ _ _ _ h2, planM_oo _ _ _ h1, zrow_o h1]
theorem moveIm_48 {mm s k : Nat} (h : k ≠ 56) : moveIm I mm s 47 k = I 47 k := by
  unfold moveIm
  rw [iu_k h, mvM_oo _ _ _ _ _ (by decide), planM_oo _ _ _ (by decide), zrow_o (by decide)]
theorem move_key (h : Rel sh I J R c) {mm s : Nat} (hm : mm ≤ 10) (h1 : 1 ≤ mm) (hs : s < 5) : moveIm (planI I mm s) mm s 88 s = planR I mm s ∧ moveIm (planI I mm s) mm s 89 = moveIm (planI I mm s) mm s 46 := by
  have hCR : CR mm 0 (planL mm mm I) := CR.plan mm I (fun y g1 g2 => by omega)
  let Ia := iu (planL mm mm I) 42 4 (nI mm)
  have a44 : Ia 43 = I 43 := (iu_ne 43 (by decide)).trans (planL_o _ _ _ (by decide))
  have a45 : Ia 44 = I 44 := (iu_ne 44 (by decide)).trans (planL_o _ _ _ (by decide))
  have a46 : Ia 45 = planL mm mm I 45 := iu_ne 45 (by decide)
  have hCa : CR mm 0 Ia := by
    intro y g1 g2 t ht
    rw [a46, hCR y g1 g2 t ht]
    exact (cval_c (I := planL mm mm I) (iu_ne 43 (by decide)) (iu_ne 44 (by decide)) (fun j _ => iu_o (by decide))).symm
  let I1 := planI I mm s
  have o1 : ∀ a, a ≠ 42 → a ≠ 45 → a ≠ 46 → I1 a = I a := fun a g1 g2 g3 => planI_o g1 g2 g3
  let Im := planM mm (zrow mm I1)
  have m87 : Im 86 = I 86 := (planM_oo _ _ _ (by decide)).trans ((zrow_o (by decide)).trans (o1 86 (by decide) (by decide) (by decide)))
  have m88 : Im 87 = I 87 := (planM_oo _ _ _ (by decide)).trans ((zrow_o (by decide)).trans (o1 87 (by decide) (by decide) (by decide)))
  have m90 : Im 89 = I 89 := (planM_oo _ _ _ (by decide)).trans ((zrow_o (by decide)).trans (o1 89 (by decide) (by decide) (by decide)))
  have hRm : Rows mm 0 Im := Rows.plan mm _ (fun y g1 g2 => by omega)
  have hz : ∀ t, t < 5 → Im 88 (5 * mm + t) = 0 := fun t ht => (planM_hi mm _ _ (by omega)).trans (zrow_89 ht)
  have hS : SV mm Ia Im := sums_eq hm hCa hRm hz (fun s y g1 g2 => by rw [m87, a44]; exact h.mv.1 s y g1 g2) (by rw [m88, a45]; exact h.mv.2.1)
  have hW : mvM mm 0 s Im 89 = chM mm 0 s Ia 46 := way_eq mm 0 s Ia Im (by omega) hs hS hRm (by
    rw [m90, show Ia 46 = I 46 from (iu_ne 46 (by decide)).trans (planL_o _ _ _ (by decide))]
    exact h.mv.2.2.2)
  have hx := ns_c (f := sb Ia s 0) (g := vF Im 0 s) (fun u hu => hS 0 (by omega) s u hs hu)
  constructor
  · have e1 : moveIm I1 mm s 88 s = Im 88 s := by
      unfold moveIm
      rw [iu_ne 88 (by decide), mvM_oo _ _ _ _ _ (by decide)]
    have e2 : Im 88 s = frF (vF Im 0 s) := by
      have := hRm 0 (Nat.le_refl _) (by omega) s hs
      rwa [Nat.mul_zero, Nat.zero_add] at this
    show moveIm I1 mm s 88 s = _
    rw [e1, e2, ← hx.2, ← nsF_val (sb Ia s 0)]
    unfold planR
    rw [sb_c (I := Ia) (I' := planI I mm s) (chM_o _ _ _ _ _ (by decide)) (chM_o _ _ _ _ _ (by decide))]
  · have e1 : moveIm I1 mm s 89 = mvM mm 0 s Im 89 := iu_ne 89 (by decide)
    have e2 : moveIm I1 mm s 46 = I1 46 := moveIm_o (by decide) (by decide) (by decide)
    show moveIm I1 mm s 89 = moveIm I1 mm s 46
    rw [e1, e2, hW]
    rfl
theorem r_move (h : Rel sh I J R c) (y : Int32) : moveRm (moveI I y) y = moveR I y ∧ Rel sh (movIm (moveI I y) y) J R (c + 1) := by
  by_cases hw : wI y 1 10 = 0
  · simp only [moveR, moveRm, moveI, movIm, if_pos hw]
    exact ⟨trivial, h.mono⟩
  obtain ⟨ey, l1, l2⟩ := yrs hw
  obtain ⟨v, hv, hx, hy⟩ := id h.sc.2.1
  have es : ix (I 1 2) = v := by rw [hx]; exact ixn (by omega)
  have em : ix (I 47 1) = v := by rw [hy]; exact ixn (by omega)
  have ei : moveI I y = planI I (ix y) v := by simp only [moveI, if_neg hw, es]
  have er : moveR I y = planR I (ix y) v := by simp only [moveR, if_neg hw, es]
  have e48 : planI I (ix y) v 47 = I 47 := planI_o (by decide) (by decide) (by decide)
  rw [ei, er]
  unfold moveRm movIm
  rw [if_neg hw, if_neg hw, e48, em]
  obtain ⟨k1, k2⟩ := move_key h (mm := ix y) (s := v) l2 l1 (by omega)
  refine ⟨k1, ?_⟩
  have ho : ∀ a, a ≠ 42 → a ≠ 45 → a ≠ 46 → a ≠ 47 → a ≠ 88 → a ≠ 89 → moveIm (planI I (ix y) v) (ix y) v a = I a := fun a g1 g2 g3 g4 g5 g6 => by
    rw [moveIm_o g4 g5 g6, planI_o g1 g2 g3]
  have h48 : ∀ k, k ≠ 56 → moveIm (planI I (ix y) v) (ix y) v 47 k = I 47 k := fun k hk => by rw [moveIm_48 hk, e48]
  have hl := h.st.len
  have h43 : moveIm (planI I (ix y) v) (ix y) v 42 4 = nI (ix y) := by
    rw [moveIm_o (by decide) (by decide) (by decide)]
    unfold planI
    rw [chM_o _ _ _ _ _ (by decide), iu_same]
  refine ⟨⟨h.st, h.wp, h.bl.of (fun a ha => ho a (by omega) (by omega) (by omega) (by omega) (by omega) (by omega)) (fun _ _ => rfl) (fun _ _ => rfl)⟩, h.sc.fr (fun a ha => ho a (by omega) (by omega) (by omega) (by omega) (by omega) (by omega)) (fun k hk => h48 k (by omega)), h.rws.fr (fun a ha => ho a (by omega) (by omega) (by omega) (by omega) (by omega) (by omega)), h.kd.fr (fun a g1 g2 => ho a (by omega) (by omega) (by omega) (by omega) (by omega) (by omega)) (fun a g1 g2 => ho a (by omega) (by omega) (by omega) (by omega) (by omega) (by omega)), h.pots.fr (fun a g1 g2 => ho a (by omega) (by omega) (by omega) (by omega) (by omega) (by omega)) (fun a g1 g2 => ho a (by omega) (by omega) (by omega) (by omega) (by omega) (by omega)) (by rw [ho 0 (by decide) (by decide) (by decide) (by decide) (by decide) (by decide)]; exact Nat.le_refl _), h.tx.fr (by rw [ho 8 (by decide) (by decide) (by decide) (by decide) (by decide) (by decide)]) (h48 39 (by decide)) (by rw [ho 14 (by decide) (by decide) (by decide) (by decide) (by decide) (by decide)]) (h48 42 (by decide)) (fun a ha => ho a (by omega) (by omega) (by omega) (by omega) (by omega) (by omega)), h.shf.fr (fun a ha => ho a (by omega) (by omega) (by omega) (by omega) (by omega) (by omega)), ⟨?_, ?_, ⟨ix y, l2, h43, iu_same⟩, k2⟩, h.pc.fr (fun a g1 g2 => ho a (by omega) (by omega) (by omega) (by omega) (by omega) (by omega)) (fun a g1 => ho a (by omega) (by omega) (by omega) (by omega) (by omega) (by omega)) (fun b hb => ho _ (by omega) (by omega) (by omega) (by omega) (by omega) (by omega)) (by rw [ho 0 (by decide) (by decide) (by decide) (by decide) (by decide) (by decide)]) (h48 27 (by decide)) (Nat.le_succ c)⟩
  · unfold RCo
    rw [ho 86 (by decide) (by decide) (by decide) (by decide) (by decide) (by decide), ho 43 (by decide) (by decide) (by decide) (by decide) (by decide) (by decide)]
    exact h.mv.1
  · rw [ho 87 (by decide) (by decide) (by decide) (by decide) (by decide) (by decide), ho 44 (by decide) (by decide) (by decide) (by decide) (by decide) (by decide)]
    exact h.mv.2.1
end RelMv
