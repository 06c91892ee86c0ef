/-! ===== the relation kept: blow, both ways ===== -/
section BlD
variable {sh : List Sh} {I : IM} {J : JM} {R : RM} {c n p d b gj : Nat} {pa : Nat → Nat} {g k : Int32}
theorem blow_X (h : Rel sh I J R c) (hnc : n ≤ c) (h14 : I 0 14 = nI n) (h27 : I 47 27 = nI n) (hp : RPc sh I R n pa) (hp6 : p < 6) (hd : d < 5) (hb : b < 3) (hwt : ∃ w, 1 ≤ w ∧ w ≤ 50 ∧ I (25 + d) 1 = nI w) (hle : I (25 + d) 1 ≤ I (18 + p) 1) (hne : ¬ I (18 + p) 0 = -1) (hbr : ¬ brk (I (25 + d) 5) (I (25 + d) 7 + 1) = 0) :
    St (sh ++ [.inl 6]) (ru R 38 n (some sh.length)) ∧ (∀ a, 38 ≤ a → a ≤ 89 → (blowX I sh.length (18 + p) (25 + d) gj k g) a = I a) ∧ Rel (sh ++ [.inl 6]) (blowFm (blowX I sh.length (18 + p) (25 + d) gj k g) n p gj d g k (nI b)) J (ru R 38 n (some sh.length)) (c + 1) := by
  have hl := h.st.len
  have hst : St (sh ++ [.inl 6]) (ru R 38 n (some sh.length)) := (h.st.app (.inl 6)).ruA (a := 38) rfl n (some sh.length)
  generalize hI1 : (blowX I sh.length (18 + p) (25 + d) gj k g) = I1
  have i_o : ∀ a, a ≠ 0 → a ≠ sh.length → a ≠ 37 → a ≠ 18 + p → a ≠ 25 + d → I1 a = I a := fun a k0 k1 k2 k3 k4 => by
    rw [← hI1]
    unfold blowX
    rw [iu_ne a k0, iu_ne a k0, iu_ne a k1, blowB_o k1 k2 k3 k4]
  have i_0 : ∀ j, j ≠ 12 → j ≠ 14 → I1 0 j = I 0 j := fun j k1 k2 => by
    rw [← hI1]
    unfold blowX
    rw [iu_k k2, iu_k k1, iu_ne 0 (by omega), blowB_o (by omega) (by decide) (by omega) (by omega)]
  have i_14 : I1 0 14 = nI (n + 1) := by
    rw [← hI1]
    unfold blowX
    rw [iu_same, h14, nI_1]
  have i_12 : I1 0 12 = I 0 12 + I (25 + d) 1 := by
    rw [← hI1]
    unfold blowX
    rw [iu_k (by decide), iu_same]
  have i_B : ∀ a, a ≠ 0 → a ≠ sh.length → I1 a = blowB I sh.length (18 + p) (25 + d) gj k g a := fun a k0 k1 => by
    rw [← hI1]
    unfold blowX
    rw [iu_ne a k0, iu_ne a k0, iu_ne a k1]
  have i_37 : ∀ j, I1 37 j = if j = gj then I 37 gj - I (25 + d) 2 else I 37 j := fun j => by
    rw [i_B 37 (by decide) (by omega)]
    exact blowB_37 (by omega) (by omega) (by omega) j
  have i_kd : ∀ j, I1 (25 + d) j = if j = 7 then I (25 + d) 7 + 1 else I (25 + d) j := fun j => by
    rw [i_B _ (by omega) (by omega)]
    exact blowB_kd (by omega) (by omega) (by omega) j
  have i_P : ∀ j, I1 (18 + p) j = if 0 < I (18 + p) 1 - I (25 + d) 1 then (if j = 1 then I (18 + p) 1 - I (25 + d) 1 else I (18 + p) j) else (if j = 1 then 0 else if j = 0 then -1 else I (18 + p) j) := fun j => by
    rw [i_B _ (by omega) (by omega)]
    exact blowB_P (by omega) (by omega) (by omega) j
  have i_q : ∀ j, I1 sh.length j = if j = 6 then 2 else newP I sh.length k g (I (18 + p) 0) (I 0 11) (I (25 + d) 1) (I (25 + d) 6) sh.length j := fun j => by
    rw [← hI1]
    unfold blowX
    rw [iu_ne sh.length (by omega), iu_ne sh.length (by omega), iu_ap, blowB_q (by omega) (by omega) (by omega)]
    simp
  have im : ∀ a, 38 ≤ a → a ≤ 89 → I1 a = I a := fun a k1 k2 => i_o a (by omega) (by omega) (by omega) (by omega) (by omega)
  refine ⟨hst, im, ?_⟩
  have kd := (h.kd d hd).1
  have k1 : I 59 d = I (25 + d) 1 := kd 1 (by decide)
  have k2 : I 60 d = I (25 + d) 2 := kd 2 (by decide)
  have k5 : I 63 d = I (25 + d) 5 := kd 5 (by decide)
  have k6 : I 64 d = I (25 + d) 6 := kd 6 (by decide)
  have k7 : I 65 d = I (25 + d) 7 := kd 7 (by decide)
  have hbr' : ¬ brk (I1 63 d) (I1 65 d + 1) = 0 := by rw [im 63 (by decide) (by decide), im 65 (by decide) (by decide), k5, k7]; exact hbr
  obtain ⟨n68, n69, n70, n71, n76, n75, n74⟩ := bC_n (I := I1) (n := n) (p := p) (gj := gj) (kk := d) (g := g) (k := k) (y := nI b)
  obtain ⟨n72, n73, n77, n48⟩ := bC_X (I := I1) (n := n) (p := p) (gj := gj) (kk := d) (g := g) (k := k) (y := nI b) hbr'
  generalize hI2 : blowFm I1 n p gj d g k (nI b) = I2
  have f_o : ∀ a, (a ≠ 47 ∧ a ≠ 53 ∧ a ≠ 54 ∧ a ≠ 65 ∧ a ≠ 66 ∧ ¬ (67 ≤ a ∧ a ≤ 76)) → I2 a = I1 a := fun a ha => by rw [← hI2]; exact bF_o ha
  have f_C : ∀ a j, (a = 47 → j ≠ 27) → a ≠ 53 → I2 a j = blowCm I1 n p gj d g k (nI b) a j := fun a j q1 q2 => by rw [← hI2]; exact bF_C q1 q2
  obtain ⟨q0, qr⟩ := h.pots p hp6
  rcases qr with qr | ⟨⟨bt, hbt, ebt⟩, g55, g56, g57, g58, dn, hdn, edn⟩
  · exact absurd qr hne
  have hgl : ¬ 0 < I (18 + p) 1 - I (25 + d) 1 → I (18 + p) 1 - I (25 + d) 1 = 0 := by
    obtain ⟨w, w1, w2, w3⟩ := hwt
    intro z
    rw [Int32.le_iff_toInt_le] at hle
    have e0 : (0 : Int32).toInt = 0 := by decide
    have ew : (I (25 + d) 1).toInt = w := by rw [w3]; exact nI_toInt (by omega)
    have r := toInt_rng (I (18 + p) 1)
    have es := sub_toInt (x := I (18 + p) 1) (y := I (25 + d) 1) (by omega) (by omega)
    rw [Int32.lt_iff_toInt_lt, e0, es] at z
    apply Int32.toInt_inj.mp
    rw [es, e0]
    omega
  have e54 : ∀ j, I2 53 j = if j = p ∧ I (18 + p) 1 - I (25 + d) 1 = 0 then -1 else I 53 j := fun j => by
    rw [← hI2, bF_54, im 54 (by decide) (by decide), im 59 (by decide) (by decide), im 53 (by decide) (by decide), g55, k1]
  have e55 : ∀ j, I2 54 j = if j = p then I (18 + p) 1 - I (25 + d) 1 else I 54 j := fun j => by
    rw [f_C 54 j (fun z => absurd z (by decide)) (by decide), bC_55, im 54 (by decide) (by decide), im 59 (by decide) (by decide), g55, k1]
  have eP : I2 (18 + p) = I1 (18 + p) := f_o _ (by omega)
  have eK : I2 (25 + d) = I1 (25 + d) := f_o _ (by omega)
  have e0 : I2 0 = I1 0 := f_o 0 (by decide)
  have eQ : I2 sh.length = I1 sh.length := f_o _ (by omega)
  have hbl := (h.bl sh.length (Nat.le_refl _)).1 8
  refine blow_core (b := b) h hnc hp hp6 hd hb hst (fun a x0 x1 x2 x3 x4 x5 x6 x7 x8 x9 xa xb => ?_) (fun j x1 x2 => by rw [e0]; exact i_0 j x1 x2) (by rw [e0]; exact i_14) ?_ (fun f hf => by rw [eK, i_kd, if_neg (by omega)]) ?_ (fun j hj => ?_) ?_ (fun j hj => ?_) (fun j x1 x2 => ?_) ?_ ?_ (fun a j x1 x2 x3 => ?_) ?_ ?_ (fun x hx => ?_) (fun a x1 x2 => ?_) (fun b' hb' => ?_) ?_
  · rw [f_o a ⟨x5, x6, x7, x8, x9, xa⟩]
    exact i_o a x0 xb x1 x2 x3
  · funext j
    rw [f_C 66 j (fun z => absurd z (by decide)) (by decide), bC_67, f_o 37 (by decide), i_37, im 66 (by decide) (by decide), im 60 (by decide) (by decide), h.rws.2.2.2.2.2, k2]
  · rw [f_C 65 d (fun z => absurd z (by decide)) (by decide), bC_66, if_pos rfl, eK, i_kd, if_pos rfl, im 65 (by decide) (by decide), k7]
  · rw [f_C 65 j (fun z => absurd z (by decide)) (by decide), bC_66, if_neg hj, im 65 (by decide) (by decide)]
  · unfold RPt
    rw [eP, i_P, i_P, i_P, i_P, i_P, e54, e55, if_pos rfl, f_o 55 (by decide), f_o 56 (by decide), f_o 57 (by decide), im 55 (by decide) (by decide), im 56 (by decide) (by decide), im 57 (by decide) (by decide), e0, i_0 11 (by decide) (by decide)]
    by_cases z : 0 < I (18 + p) 1 - I (25 + d) 1
    · have nz : ¬ I (18 + p) 1 - I (25 + d) 1 = 0 := fun w => by rw [w] at z; exact absurd z (by decide)
      rw [if_neg (fun w => nz w.2)]
      simp only [if_pos z]
      exact ⟨q0, Or.inr ⟨⟨bt, hbt, ebt⟩, rfl, g56, g57, g58, dn, hdn, edn⟩⟩
    · have nz := hgl z
      rw [if_pos ⟨rfl, nz⟩]
      simp only [if_neg z]
      exact ⟨rfl, Or.inl rfl⟩
  · rw [e54, e55, if_neg (fun z => hj z.1), if_neg hj]
    exact ⟨rfl, rfl⟩
  · rw [f_C 47 j (fun _ => x2) (by decide), n48, if_neg x1, im 47 (by decide) (by decide)]
  · rw [← hI2, bF_48, im 47 (by decide) (by decide), h27, nI_1]
  · rw [f_C 47 5 (fun _ => by decide) (by decide), n48, if_pos rfl, e0, i_12, im 47 (by decide) (by decide), im 59 (by decide) (by decide), k1, h.sc.2.2.2.2.2.1]
  · rw [f_C a j (fun z => absurd z (by omega)) (by omega), bC_k x1 x2 x3, im a (by omega) (by omega)]
  · unfold PF
    rw [eQ, f_C 67 n (fun z => absurd z (by decide)) (by decide), f_C 68 n (fun z => absurd z (by decide)) (by decide), f_C 69 n (fun z => absurd z (by decide)) (by decide), f_C 70 n (fun z => absurd z (by decide)) (by decide), f_C 71 n (fun z => absurd z (by decide)) (by decide), f_C 72 n (fun z => absurd z (by decide)) (by decide), f_C 73 n (fun z => absurd z (by decide)) (by decide), f_C 74 n (fun z => absurd z (by decide)) (by decide), f_C 75 n (fun z => absurd z (by decide)) (by decide)]
    rw [n68, n69, n70, n71, n72, n73, n74, n75, n76, i_q, i_q, i_q, i_q, i_q, i_q, i_q, i_q, i_q, im 53 (by decide) (by decide), im 47 (by decide) (by decide), im 59 (by decide) (by decide), im 64 (by decide) (by decide), k1, k6, q0, h.sc.1.eq]
    simp [newP, iu_ap, hbl]
  · exact ru_same
  · rw [ru_k hx]
  · rw [ru_ne a x1]
  · have e72 : I2 71 n = 2 := by rw [f_C 71 n (fun z => absurd z (by decide)) (by decide), n72]
    have ni : ¬ inB I2 b' n = true := by unfold inB; rw [e72]; simp
    rw [pl_ext (I := I) (I2 := I2) (fun x hx => ⟨by rw [f_C 71 x (fun z => absurd z (by decide)) (by decide), bC_k (by decide) (by decide) (by omega), im 71 (by decide) (by decide)], by rw [f_C 72 x (fun z => absurd z (by decide)) (by decide), bC_k (by decide) (by decide) (by omega), im 72 (by decide) (by decide)]⟩), if_neg ni, List.append_nil]
    obtain ⟨⟨c1, c2, c3, c4⟩, c5⟩ := hp.2.2.1 b' hb'
    have eb : I2 (31 + 2 * b') = I (31 + 2 * b') := (f_o _ (by omega)).trans (i_o _ (by omega) (by omega) (by omega) (by omega) (by omega))
    refine ⟨⟨by rw [eb]; exact c1, c2, fun j hj => by rw [ru_o (by omega)]; exact c3 j hj, fun x hx => sh_app (c4 x hx)⟩, ?_⟩
    rw [f_C 76 b' (fun z => absurd z (by decide)) (by decide), n77, im 76 (by decide) (by decide), eb]
    exact c5
  · intro z
    rw [f_C 71 n (fun z => absurd z (by decide)) (by decide), n72] at z
    exact absurd z (by decide)
theorem blow_Y (h : Rel sh I J R c) (hnc : n ≤ c) (h14 : I 0 14 = nI n) (h27 : I 47 27 = nI n) (hp : RPc sh I R n pa) (hp6 : p < 6) (hd : d < 5) (hb : b < 3) (hwt : ∃ w, 1 ≤ w ∧ w ≤ 50 ∧ I (25 + d) 1 = nI w) (hle : I (25 + d) 1 ≤ I (18 + p) 1) (hne : ¬ I (18 + p) 0 = -1) (hbr : brk (I (25 + d) 5) (I (25 + d) 7 + 1) = 0) (hroom : (pl I pa n b).length < 20) :
    St (sh ++ [.inl 6]) (ru (ru R (32 + 2 * b) (pl I pa n b).length (some sh.length)) 38 n (some sh.length)) ∧ (∀ a, 38 ≤ a → a ≤ 89 → (blowY I sh.length (18 + p) (25 + d) gj (31 + 2 * b) k g (nI b)) a = I a) ∧ Rel (sh ++ [.inl 6]) (blowFm (blowY I sh.length (18 + p) (25 + d) gj (31 + 2 * b) k g (nI b)) n p gj d g k (nI b)) J (ru (ru R (32 + 2 * b) (pl I pa n b).length (some sh.length)) 38 n (some sh.length)) (c + 1) := by
  have hl := h.st.len
  have hst : St (sh ++ [.inl 6]) (ru (ru R (32 + 2 * b) (pl I pa n b).length (some sh.length)) 38 n (some sh.length)) := ((h.st.app (.inl 6)).ruB hb _ (some sh.length)).ruA (a := 38) rfl n (some sh.length)
  generalize hI1 : (blowY I sh.length (18 + p) (25 + d) gj (31 + 2 * b) k g (nI b)) = I1
  have i_o : ∀ a, a ≠ 0 → a ≠ sh.length → a ≠ 37 → a ≠ 18 + p → a ≠ 25 + d → a ≠ 31 + 2 * b → I1 a = I a := fun a k0 k1 k2 k3 k4 k5 => by
    rw [← hI1]
    unfold blowY
    rw [iu_ne a k0, iu_ne a k5, iu_ne a k1, blowB_o k1 k2 k3 k4]
  have i_0 : ∀ j, j ≠ 12 → j ≠ 14 → I1 0 j = I 0 j := fun j k1 k2 => by
    rw [← hI1]
    unfold blowY
    rw [iu_k k2, iu_ne 0 (by omega), iu_ne 0 (by omega), blowB_o (by omega) (by decide) (by omega) (by omega)]
  have i_14 : I1 0 14 = nI (n + 1) := by
    rw [← hI1]
    unfold blowY
    rw [iu_same, h14, nI_1]
  have i_12 : I1 0 12 = I 0 12 := by
    rw [← hI1]
    unfold blowY
    rw [iu_k (by decide), iu_ne 0 (by omega), iu_ne 0 (by omega), blowB_o (by omega) (by decide) (by omega) (by omega)]
  have i_B : ∀ a, a ≠ 0 → a ≠ sh.length → a ≠ 31 + 2 * b → I1 a = blowB I sh.length (18 + p) (25 + d) gj k g a := fun a k0 k1 k5 => by
    rw [← hI1]
    unfold blowY
    rw [iu_ne a k0, iu_ne a k5, iu_ne a k1]
  have i_37 : ∀ j, I1 37 j = if j = gj then I 37 gj - I (25 + d) 2 else I 37 j := fun j => by
    rw [i_B 37 (by decide) (by omega) (by omega)]
    exact blowB_37 (by omega) (by omega) (by omega) j
  have i_kd : ∀ j, I1 (25 + d) j = if j = 7 then I (25 + d) 7 + 1 else I (25 + d) j := fun j => by
    rw [i_B _ (by omega) (by omega) (by omega)]
    exact blowB_kd (by omega) (by omega) (by omega) j
  have i_P : ∀ j, I1 (18 + p) j = if 0 < I (18 + p) 1 - I (25 + d) 1 then (if j = 1 then I (18 + p) 1 - I (25 + d) 1 else I (18 + p) j) else (if j = 1 then 0 else if j = 0 then -1 else I (18 + p) j) := fun j => by
    rw [i_B _ (by omega) (by omega) (by omega)]
    exact blowB_P (by omega) (by omega) (by omega) j
  have i_q : ∀ j, I1 sh.length j = if j = 7 then nI b else newP I sh.length k g (I (18 + p) 0) (I 0 11) (I (25 + d) 1) (I (25 + d) 6) sh.length j := fun j => by
    rw [← hI1]
    unfold blowY
    rw [iu_ne sh.length (by omega), iu_ne sh.length (by omega), iu_ap, blowB_q (by omega) (by omega) (by omega)]
    simp
  have im : ∀ a, 38 ≤ a → a ≤ 89 → I1 a = I a := fun a k1 k2 => i_o a (by omega) (by omega) (by omega) (by omega) (by omega) (by omega)
  refine ⟨hst, im, ?_⟩
  have kd := (h.kd d hd).1
  have k1 : I 59 d = I (25 + d) 1 := kd 1 (by decide)
  have k2 : I 60 d = I (25 + d) 2 := kd 2 (by decide)
  have k5 : I 63 d = I (25 + d) 5 := kd 5 (by decide)
  have k6 : I 64 d = I (25 + d) 6 := kd 6 (by decide)
  have k7 : I 65 d = I (25 + d) 7 := kd 7 (by decide)
  have hbr' : brk (I1 63 d) (I1 65 d + 1) = 0 := by rw [im 63 (by decide) (by decide), im 65 (by decide) (by decide), k5, k7]; exact hbr
  obtain ⟨n68, n69, n70, n71, n76, n75, n74⟩ := bC_n (I := I1) (n := n) (p := p) (gj := gj) (kk := d) (g := g) (k := k) (y := nI b)
  obtain ⟨n72, n73, n77, n48⟩ := bC_Y (I := I1) (n := n) (p := p) (gj := gj) (kk := d) (g := g) (k := k) (y := nI b) hbr'
  generalize hI2 : blowFm I1 n p gj d g k (nI b) = I2
  have f_o : ∀ a, (a ≠ 47 ∧ a ≠ 53 ∧ a ≠ 54 ∧ a ≠ 65 ∧ a ≠ 66 ∧ ¬ (67 ≤ a ∧ a ≤ 76)) → I2 a = I1 a := fun a ha => by rw [← hI2]; exact bF_o ha
  have f_C : ∀ a j, (a = 47 → j ≠ 27) → a ≠ 53 → I2 a j = blowCm I1 n p gj d g k (nI b) a j := fun a j q1 q2 => by rw [← hI2]; exact bF_C q1 q2
  obtain ⟨q0, qr⟩ := h.pots p hp6
  rcases qr with qr | ⟨⟨bt, hbt, ebt⟩, g55, g56, g57, g58, dn, hdn, edn⟩
  · exact absurd qr hne
  have hgl : ¬ 0 < I (18 + p) 1 - I (25 + d) 1 → I (18 + p) 1 - I (25 + d) 1 = 0 := by
    obtain ⟨w, w1, w2, w3⟩ := hwt
    intro z
    rw [Int32.le_iff_toInt_le] at hle
    have e0 : (0 : Int32).toInt = 0 := by decide
    have ew : (I (25 + d) 1).toInt = w := by rw [w3]; exact nI_toInt (by omega)
    have r := toInt_rng (I (18 + p) 1)
    have es := sub_toInt (x := I (18 + p) 1) (y := I (25 + d) 1) (by omega) (by omega)
    rw [Int32.lt_iff_toInt_lt, e0, es] at z
    apply Int32.toInt_inj.mp
    rw [es, e0]
    omega
  have e54 : ∀ j, I2 53 j = if j = p ∧ I (18 + p) 1 - I (25 + d) 1 = 0 then -1 else I 53 j := fun j => by
    rw [← hI2, bF_54, im 54 (by decide) (by decide), im 59 (by decide) (by decide), im 53 (by decide) (by decide), g55, k1]
  have e55 : ∀ j, I2 54 j = if j = p then I (18 + p) 1 - I (25 + d) 1 else I 54 j := fun j => by
    rw [f_C 54 j (fun z => absurd z (by decide)) (by decide), bC_55, im 54 (by decide) (by decide), im 59 (by decide) (by decide), g55, k1]
  have eP : I2 (18 + p) = I1 (18 + p) := f_o _ (by omega)
  have eK : I2 (25 + d) = I1 (25 + d) := f_o _ (by omega)
  have e0 : I2 0 = I1 0 := f_o 0 (by decide)
  have eQ : I2 sh.length = I1 sh.length := f_o _ (by omega)
  have hbl := (h.bl sh.length (Nat.le_refl _)).1 8
  refine blow_core (b := b) h hnc hp hp6 hd hb hst (fun a x0 x1 x2 x3 x4 x5 x6 x7 x8 x9 xa xb => ?_) (fun j x1 x2 => by rw [e0]; exact i_0 j x1 x2) (by rw [e0]; exact i_14) ?_ (fun f hf => by rw [eK, i_kd, if_neg (by omega)]) ?_ (fun j hj => ?_) ?_ (fun j hj => ?_) (fun j x1 x2 => ?_) ?_ ?_ (fun a j x1 x2 x3 => ?_) ?_ ?_ (fun x hx => ?_) (fun a x1 x2 => ?_) (fun b' hb' => ?_) ?_
  · rw [f_o a ⟨x5, x6, x7, x8, x9, xa⟩]
    exact i_o a x0 xb x1 x2 x3 x4
  · funext j
    rw [f_C 66 j (fun z => absurd z (by decide)) (by decide), bC_67, f_o 37 (by decide), i_37, im 66 (by decide) (by decide), im 60 (by decide) (by decide), h.rws.2.2.2.2.2, k2]
  · rw [f_C 65 d (fun z => absurd z (by decide)) (by decide), bC_66, if_pos rfl, eK, i_kd, if_pos rfl, im 65 (by decide) (by decide), k7]
  · rw [f_C 65 j (fun z => absurd z (by decide)) (by decide), bC_66, if_neg hj, im 65 (by decide) (by decide)]
  · unfold RPt
    rw [eP, i_P, i_P, i_P, i_P, i_P, e54, e55, if_pos rfl, f_o 55 (by decide), f_o 56 (by decide), f_o 57 (by decide), im 55 (by decide) (by decide), im 56 (by decide) (by decide), im 57 (by decide) (by decide), e0, i_0 11 (by decide) (by decide)]
    by_cases z : 0 < I (18 + p) 1 - I (25 + d) 1
    · have nz : ¬ I (18 + p) 1 - I (25 + d) 1 = 0 := fun w => by rw [w] at z; exact absurd z (by decide)
      rw [if_neg (fun w => nz w.2)]
      simp only [if_pos z]
      exact ⟨q0, Or.inr ⟨⟨bt, hbt, ebt⟩, rfl, g56, g57, g58, dn, hdn, edn⟩⟩
    · have nz := hgl z
      rw [if_pos ⟨rfl, nz⟩]
      simp only [if_neg z]
      exact ⟨rfl, Or.inl rfl⟩
  · rw [e54, e55, if_neg (fun z => hj z.1), if_neg hj]
    exact ⟨rfl, rfl⟩
  · rw [f_C 47 j (fun _ => x2) (by decide), n48, im 47 (by decide) (by decide)]
  · rw [← hI2, bF_48, im 47 (by decide) (by decide), h27, nI_1]
  · rw [f_C 47 5 (fun _ => by decide) (by decide), n48, e0, i_12, im 47 (by decide) (by decide), h.sc.2.2.2.2.2.1]
  · rw [f_C a j (fun z => absurd z (by omega)) (by omega), bC_k x1 x2 x3, im a (by omega) (by omega)]
  · unfold PF
    rw [eQ, f_C 67 n (fun z => absurd z (by decide)) (by decide), f_C 68 n (fun z => absurd z (by decide)) (by decide), f_C 69 n (fun z => absurd z (by decide)) (by decide), f_C 70 n (fun z => absurd z (by decide)) (by decide), f_C 71 n (fun z => absurd z (by decide)) (by decide), f_C 72 n (fun z => absurd z (by decide)) (by decide), f_C 73 n (fun z => absurd z (by decide)) (by decide), f_C 74 n (fun z => absurd z (by decide)) (by decide), f_C 75 n (fun z => absurd z (by decide)) (by decide)]
    rw [n68, n69, n70, n71, n72, n73, n74, n75, n76, i_q, i_q, i_q, i_q, i_q, i_q, i_q, i_q, i_q, im 53 (by decide) (by decide), im 47 (by decide) (by decide), im 59 (by decide) (by decide), im 64 (by decide) (by decide), k1, k6, q0, h.sc.1.eq]
    simp [newP, iu_ap, hbl]
  · exact ru_same
  · rw [ru_k hx, ru_o (by omega)]
  · rw [ru_ne a x1, ru_ne a x2]
  · have e72 : I2 71 n = 0 := by rw [f_C 71 n (fun z => absurd z (by decide)) (by decide), n72]
    have e73 : I2 72 n = nI b := by rw [f_C 72 n (fun z => absurd z (by decide)) (by decide), n73]
    have e77 : I2 76 b' = if b' = b then I 76 b + 1 else I 76 b' := by rw [f_C 76 b' (fun z => absurd z (by decide)) (by decide), n77, im 76 (by decide) (by decide), ixn (by omega)]
    obtain ⟨⟨c1, c2, c3, c4⟩, c5⟩ := hp.2.2.1 b' hb'
    rw [pl_ext (I := I) (I2 := I2) (fun x hx => ⟨by rw [f_C 71 x (fun z => absurd z (by decide)) (by decide), bC_k (by decide) (by decide) (by omega), im 71 (by decide) (by decide)], by rw [f_C 72 x (fun z => absurd z (by decide)) (by decide), bC_k (by decide) (by decide) (by omega), im 72 (by decide) (by decide)]⟩), e77]
    by_cases e : b' = b
    · subst e
      have yi : inB I2 b' n = true := by unfold inB; exact decide_eq_true ⟨e72, e73⟩
      have eb : I2 (31 + 2 * b') 1 = nI ((pl I pa n b').length + 1) := by
        rw [f_o _ (by omega), ← hI1]
        unfold blowY
        rw [iu_ne (31 + 2 * b') (by omega), iu_same, c1, nI_1]
      rw [if_pos yi, if_pos rfl, eb]
      refine ⟨⟨by rw [eb, List.length_append]; rfl, by rw [List.length_append]; exact hroom, fun j hj => ?_, fun x hx => ?_⟩, by rw [c5, c1, nI_1]⟩
      · rw [ru_o (by omega)]
        rw [List.length_append] at hj
        have hj' : j < (pl I pa n b').length + 1 := hj
        by_cases ej : j = (pl I pa n b').length
        · subst ej
          rw [ru_same]
          simp
        · rw [ru_k ej, List.getElem?_append_left (by omega)]
          exact c3 j (by omega)
      · rcases List.mem_append.mp hx with hx | hx
        · exact sh_app (c4 x hx)
        · rw [List.mem_singleton] at hx
          subst hx
          simp
    · have ni : ¬ inB I2 b' n = true := by
        unfold inB
        rw [e72, e73]
        intro w
        have := (of_decide_eq_true w).2
        exact e ((nI_eq (by omega) (by omega)).mp this).symm
      have eb : I2 (31 + 2 * b') = I (31 + 2 * b') := (f_o _ (by omega)).trans (i_o _ (by omega) (by omega) (by omega) (by omega) (by omega) (by omega))
      rw [if_neg ni, List.append_nil, if_neg e, eb]
      exact ⟨⟨by rw [eb]; exact c1, c2, fun j hj => by rw [ru_o (by omega), ru_o (by omega)]; exact c3 j hj, fun x hx => sh_app (c4 x hx)⟩, c5⟩
  · intro _
    exact ⟨b, hb, by rw [f_C 72 n (fun z => absurd z (by decide)) (by decide), n73]⟩
theorem whyF_0 {told en rd ht kc pc gl wt mi km by_ bl : Int32} (h : whyF told en rd ht kc pc gl wt mi km by_ bl = 0) : ¬ told = 0 ∧ ¬ rd = 0 ∧ wt ≤ gl ∧ ¬ by_ = -1 := by
  unfold whyF at h
  by_cases h1 : told = 0
  · rw [if_pos h1] at h; exact absurd h (by decide)
  rw [if_neg h1] at h
  by_cases h2 : en = 0
  · rw [if_pos h2] at h
    by_cases h3 : rd = 0
    · rw [if_pos h3] at h; exact absurd h (by decide)
    rw [if_neg h3] at h
    by_cases h4 : 900 ≤ ht
    · rw [if_pos h4] at h
      by_cases h5 : kc = -1 ∨ kc = pc
      · rw [if_pos h5] at h
        by_cases h6 : wt ≤ gl
        · rw [if_pos h6] at h
          by_cases h7 : km ≤ mi
          · rw [if_pos h7] at h
            by_cases h8 : by_ = -1
            · rw [if_pos h8] at h; exact absurd h (by decide)
            · exact ⟨h1, h3, h6, h8⟩
          · rw [if_neg h7] at h; exact absurd h (by decide)
        · rw [if_neg h6] at h; exact absurd h (by decide)
      · rw [if_neg h5] at h; exact absurd h (by decide)
    · rw [if_neg h4] at h; exact absurd h (by decide)
  · rw [if_neg h2] at h; exact absurd h (by decide)
theorem fbR_room {x y z : Int32} {b : Nat} (h : fbR x y z = nI b) (hb : b < 3) : ¬ 20 ≤ (if b = 0 then x else if b = 1 then y else z) := by
  rw [fbR_eq] at h
  unfold fbRm at h
  by_cases h1 : 20 ≤ x
  · rw [if_pos h1] at h
    by_cases h2 : 20 ≤ y
    · rw [if_pos h2] at h
      by_cases h3 : 20 ≤ z
      · rw [if_pos h3] at h
        exact absurd h.symm (nI_nm1 (by omega))
      · rw [if_neg h3] at h
        have e : b = 2 := ((nI_eq (a := 2) (by decide) (by omega)).mp h).symm
        subst e; exact h3
    · rw [if_neg h2] at h
      have e : b = 1 := ((nI_eq (a := 1) (by decide) (by omega)).mp h).symm
      subst e; exact h2
  · rw [if_neg h1] at h
    have e : b = 0 := ((nI_eq (a := 0) (by decide) (by omega)).mp h).symm
    subst e; exact h1
theorem r_blow (h : Rel sh I J R c) (hnc : n ≤ c) (h14 : I 0 14 = nI n) (h27 : I 47 27 = nI n) (hp : RPc sh I R n pa) (hn : n < 1000) {cs : Nat → Nat} (hcs : ∀ b, b < 3 → cs b = (pl I pa n b).length) {p' : Int32} {v : Option Value} {s1 : List Sh} {I1 : IM} {J1 : JM} {R1 : RM} (hq : blowQ sh I J R n cs g k p' v s1 I1 J1 R1) : St s1 R1 ∧ I1 47 27 = nI n ∧ v = some (.int (blowRm I1 g k p')) ∧ J1 = J ∧ Rel s1 (blowIm I1 n g k p') J R1 (c + 1) ∧ R1 39 = R 39 := by
  have ha := blow_ans h h14 h27 hn g k p'
  rcases hq with ⟨hr, rfl, rfl, rfl, rfl, rfl⟩ | ⟨hr, rfl, hy, wg, wk, wp, hb⟩
  · have e : ¬ blowRm I1 g k p' = 0 := by rw [ha]; exact hr
    refine ⟨h.st, h27, by rw [ha], rfl, ?_, rfl⟩
    unfold blowIm
    rw [if_neg e]
    exact h.mono
  · have hr0 := hr
    unfold blowRc at hr0
    rw [if_neg wg, if_neg wk, if_neg wp] at hr0
    obtain ⟨t1, t2, t3, t4⟩ := whyF_0 hr0
    obtain ⟨_, lp⟩ := ix_le (n := 5) wp rfl (by decide)
    obtain ⟨_, lk⟩ := ix_le (n := 4) wk rfl (by decide)
    have ey := hy.eq (by decide)
    have ly := hy.lt
    have b0 := bay_sz h.pc (b := 0) (by decide)
    have b1 := bay_sz h.pc (b := 1) (by decide)
    have b2 := bay_sz h.pc (b := 2) (by decide)
    simp only [Nat.mul_zero, Nat.add_zero, Nat.reduceMul, Nat.reduceAdd] at b0 b1 b2
    have hroom := fbR_room ey ly
    generalize hB : ix (fbR (I 31 1) (I 33 1) (I 35 1)) = B at hb ey ly hroom
    have hne : ¬ I (18 + ix p') 0 = -1 := fun z => t2 (by unfold rdy; rw [if_pos z])
    have hwt : ∃ w, 1 ≤ w ∧ w ≤ 50 ∧ I (25 + ix k) 1 = nI w := by
      rcases (h.kd (ix k) (by omega)).2 with z | z
      · exact absurd z t1
      · exact z.2.1
    have hlen : (pl I pa n B).length < 20 := by
      have q := (hp.2.2.1 B ly).1.1
      have q2 : (if B = 0 then I 31 1 else if B = 1 then I 33 1 else I 35 1) = I (31 + 2 * B) 1 := by
        rcases (show B = 0 ∨ B = 1 ∨ B = 2 by omega) with z | z | z <;> rw [z] <;> rfl
      rw [q2, q] at hroom
      rcases Nat.lt_or_ge (pl I pa n B).length 20 with z | z
      · exact z
      · exact absurd (nI_le (a := 20) z (by have := (hp.2.2.1 B ly).1.2.1; omega)) hroom
    have fin : ∀ X : IM, (∀ a, 38 ≤ a → a ≤ 89 → X a = I a) → blowRm X g k p' = 0 ∧ blowIm X n g k p' = blowFm X n (ix p') (ix g) (ix k) g k (nI B) := by
      intro X hX
      have e1 : blowRm X g k p' = blowRm I g k p' := by
        unfold blowRm
        rw [hX 58 (by decide) (by decide), hX 47 (by decide) (by decide), hX 53 (by decide) (by decide), hX 55 (by decide) (by decide), hX 56 (by decide) (by decide), hX 62 (by decide) (by decide), hX 57 (by decide) (by decide), hX 59 (by decide) (by decide), hX 54 (by decide) (by decide), hX 60 (by decide) (by decide), hX 66 (by decide) (by decide), hX 76 (by decide) (by decide)]
      have e2 : blowRm X g k p' = 0 := by rw [e1, ha]; exact hr
      refine ⟨e2, ?_⟩
      unfold blowIm
      rw [if_pos e2, hX 76 (by decide) (by decide), b0, b1, b2, ← fbR_eq, ey]
    rw [ey, hcs B ly] at hb
    obtain ⟨_, rfl, rfl, ⟨hbr, rfl, rfl⟩ | ⟨hbr, rfl, rfl⟩⟩ := hb
    · obtain ⟨x1, x2, x3⟩ := blow_X (gj := ix g) (g := g) (k := k) (b := B) h hnc h14 h27 hp (p := ix p') (d := ix k) (by omega) (by omega) ly hwt t3 hne hbr
      obtain ⟨f1, f2⟩ := fin _ x2
      refine ⟨x1, by rw [x2 47 (by decide) (by decide)]; exact h27, by rw [f1], rfl, ?_, ru_ne 39 (by decide)⟩
      rw [f2]; exact x3
    · obtain ⟨x1, x2, x3⟩ := blow_Y (gj := ix g) (g := g) (k := k) (b := B) h hnc h14 h27 hp (p := ix p') (d := ix k) (by omega) (by omega) ly hwt t3 hne hbr hlen
      obtain ⟨f1, f2⟩ := fin _ x2
      refine ⟨x1, by rw [x2 47 (by decide) (by decide)]; exact h27, by rw [f1], rfl, ?_, by rw [ru_ne 39 (by decide), ru_ne 39 (by omega)]⟩
      rw [f2]; exact x3
end BlD
