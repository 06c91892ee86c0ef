/-! ===== frames; feed; the queries ===== -/
section RelQ
variable {sh : List Sh} {I I' : IM} {J : JM} {R : RM} {c : Nat}
theorem RScal.fr (h : RScal I) (h1 : ∀ a, a = 0 ∨ a = 1 ∨ a = 4 → I' a = I a) (h2 : ∀ k, k < 13 → I' 47 k = I 47 k) : RScal I' := by
  unfold RScal at h ⊢
  rw [h1 0 (by decide), h1 1 (by decide), h1 4 (by decide), h2 0 (by decide), h2 1 (by decide), h2 2 (by decide), h2 3 (by decide), h2 4 (by decide), h2 5 (by decide), h2 8 (by decide), h2 12 (by decide)]
  exact h
theorem RRows.fr (h : RRows I) (h1 : ∀ a, (2 ≤ a ∧ a ≤ 7) ∨ a = 37 ∨ (48 ≤ a ∧ a ≤ 52) ∨ a = 66 → I' a = I a) : RRows I' := by
  unfold RRows at h ⊢
  rw [h1 2 (by decide), h1 3 (by decide), h1 5 (by decide), h1 6 (by decide), h1 7 (by decide), h1 37 (by decide), h1 48 (by decide), h1 49 (by decide), h1 50 (by decide), h1 51 (by decide), h1 52 (by decide), h1 66 (by decide)]
  exact h
theorem RText.fr (h : RText I) (a1 : I' 8 5 = I 8 5) (a2 : I' 47 39 = I 47 39) (a3 : I' 14 2 = I 14 2) (a4 : I' 47 42 = I 47 42) (h1 : ∀ a, a = 9 ∨ a = 15 ∨ a = 16 ∨ (77 ≤ a ∧ a ≤ 79) → I' a = I a) : RText I' := by
  unfold RText at h ⊢
  rw [a1, a2, a3, a4, h1 9 (by decide), h1 15 (by decide), h1 16 (by decide), h1 77 (by decide), h1 78 (by decide), h1 79 (by decide)]
  exact h
theorem RSh.fr (h : RSh I) (h1 : ∀ a, a = 39 ∨ a = 41 ∨ a = 85 → I' a = I a) : RSh I' := by
  unfold RSh at h ⊢
  rw [h1 39 (by decide), h1 41 (by decide), h1 85 (by decide)]
  exact h
theorem RMove.fr (h : RMove I) (a1 : I' 42 4 = I 42 4) (a2 : I' 47 56 = I 47 56) (h1 : ∀ a, a = 43 ∨ a = 44 ∨ a = 46 ∨ a = 86 ∨ a = 87 ∨ a = 89 → I' a = I a) : RMove I' := by
  unfold RMove RCo at h ⊢
  rw [a1, a2, h1 43 (by decide), h1 44 (by decide), h1 46 (by decide), h1 86 (by decide), h1 87 (by decide), h1 89 (by decide)]
  exact h
/-- feed -/
def app4 (f : Nat → Int32) (n : Nat) (x0 x1 x2 x3 : Int32) : Nat → Int32 := fun k => if k = n + 3 then x3 else if k = n + 2 then x2 else if k = n + 1 then x1 else if k = n then x0 else f k
theorem appI_9 {n : Nat} {v : Int32} : appI I n v 9 = app4 (I 9) n (cB v 24) (cB v 16) (cB v 8) (cB v 0) := by
  funext k
  simp [appI, app4, iu_ap]
theorem fourI_78 {n : Nat} {v : Int32} : fourI I n v 77 = app4 (I 77) n (mB v 24) (mB v 16) (mB v 8) (mB v 0) := by
  funext k
  simp [fourI, app4, iu_ap]
theorem appI_o {n a : Nat} {v : Int32} (h8 : a ≠ 8) (h9 : a ≠ 9) : appI I n v a = I a := by
  unfold appI
  rw [iu_ne a h8, iu_ne a h9, iu_ne a h8, iu_ne a h9, iu_ne a h8, iu_ne a h9, iu_ne a h8, iu_ne a h9]
theorem fourI_o {n a : Nat} {v : Int32} (h8 : a ≠ 47) (h9 : a ≠ 77) : fourI I n v a = I a := by
  unfold fourI
  rw [iu_ne a h8, iu_ne a h9, iu_ne a h8, iu_ne a h9, iu_ne a h8, iu_ne a h9, iu_ne a h8, iu_ne a h9]
theorem fourI_48 {n k : Nat} {v : Int32} (h : k ≠ 39) : fourI I n v 47 k = I 47 k := by
  unfold fourI
  rw [iu_k h, iu_o (by decide), iu_k h, iu_o (by decide), iu_k h, iu_o (by decide), iu_k h, iu_o (by decide)]
theorem bmod_c {a b : Int} (h : a % 256 = b % 256) : a.bmod (2 ^ 8) = b.bmod (2 ^ 8) := by
  unfold Int.bmod
  have e : ((2 ^ 8 : Nat) : Int) = 256 := by decide
  rw [e, h]
theorem i8_eq {x y : Int32} (h : x.toInt % 256 = y.toInt % 256) : x.toInt8.toInt32 = y.toInt8.toInt32 := by
  congr 1
  apply Int8.toInt_inj.mp
  rw [Int32.toInt_toInt8, Int32.toInt_toInt8]
  exact bmod_c h
theorem nat_toInt (v : Int32) : v.toInt = (v.toBitVec.toNat : Int) ∨ v.toInt = (v.toBitVec.toNat : Int) - 4294967296 := by
  show v.toBitVec.toInt = _ ∨ v.toBitVec.toInt = _
  rw [BitVec.toInt_eq_toNat_cond]
  split
  · exact Or.inl rfl
  · exact Or.inr rfl

theorem BY_24 (v : Int32) : BY (cB v 24) (mB v 24) := by
  have e1 : cB v 24 = nI (v.toBitVec.toNat / 2 ^ 24 % 2 ^ 8) := by
    unfold cB
    rw [pk_and _ 8 (by decide), pk_ushr v 24 24 (by decide)]
  have hb : v.toBitVec.toNat / 2 ^ 24 % 2 ^ 8 < 256 := Nat.mod_lt _ (by decide)
  refine ⟨v.toBitVec.toNat / 2 ^ 24 % 2 ^ 8, hb, e1, ?_⟩
  unfold mB
  apply i8_eq
  rw [pk_shr v (24 &&& 31) 24 (by decide), Int.shiftRight_eq_div_pow, nI_toInt (by omega)]
  have h32 : v.toBitVec.toNat < 4294967296 := v.toBitVec.isLt
  rcases nat_toInt v with e | e
  · rw [e]; simp <;> omega
  · rw [e]; simp <;> omega

theorem BY_16 (v : Int32) : BY (cB v 16) (mB v 16) := by
  have e1 : cB v 16 = nI (v.toBitVec.toNat / 2 ^ 16 % 2 ^ 8) := by
    unfold cB
    rw [pk_and _ 8 (by decide), pk_ushr v 16 16 (by decide)]
  have hb : v.toBitVec.toNat / 2 ^ 16 % 2 ^ 8 < 256 := Nat.mod_lt _ (by decide)
  refine ⟨v.toBitVec.toNat / 2 ^ 16 % 2 ^ 8, hb, e1, ?_⟩
  unfold mB
  apply i8_eq
  rw [pk_shr v (16 &&& 31) 16 (by decide), Int.shiftRight_eq_div_pow, nI_toInt (by omega)]
  have h32 : v.toBitVec.toNat < 4294967296 := v.toBitVec.isLt
  rcases nat_toInt v with e | e
  · rw [e]; simp <;> omega
  · rw [e]; simp <;> omega

theorem BY_8 (v : Int32) : BY (cB v 8) (mB v 8) := by
  have e1 : cB v 8 = nI (v.toBitVec.toNat / 2 ^ 8 % 2 ^ 8) := by
    unfold cB
    rw [pk_and _ 8 (by decide), pk_ushr v 8 8 (by decide)]
  have hb : v.toBitVec.toNat / 2 ^ 8 % 2 ^ 8 < 256 := Nat.mod_lt _ (by decide)
  refine ⟨v.toBitVec.toNat / 2 ^ 8 % 2 ^ 8, hb, e1, ?_⟩
  unfold mB
  apply i8_eq
  rw [pk_shr v (8 &&& 31) 8 (by decide), Int.shiftRight_eq_div_pow, nI_toInt (by omega)]
  have h32 : v.toBitVec.toNat < 4294967296 := v.toBitVec.isLt
  rcases nat_toInt v with e | e
  · rw [e]; simp <;> omega
  · rw [e]; simp <;> omega

theorem BY_0 (v : Int32) : BY (cB v 0) (mB v 0) := by
  have e1 : cB v 0 = nI (v.toBitVec.toNat / 2 ^ 0 % 2 ^ 8) := by
    unfold cB
    rw [pk_and _ 8 (by decide), pk_ushr v 0 0 (by decide)]
  have hb : v.toBitVec.toNat / 2 ^ 0 % 2 ^ 8 < 256 := Nat.mod_lt _ (by decide)
  refine ⟨v.toBitVec.toNat / 2 ^ 0 % 2 ^ 8, hb, e1, ?_⟩
  unfold mB
  apply i8_eq
  rw [pk_shr v (0 &&& 31) 0 (by decide), Int.shiftRight_eq_div_pow, nI_toInt (by omega)]
  have h32 : v.toBitVec.toNat < 4294967296 := v.toBitVec.isLt
  rcases nat_toInt v with e | e
  · rw [e]; simp <;> omega
  · rw [e]; simp <;> omega

theorem app4_BY {f g : Nat → Int32} {n : Nat} {x0 x1 x2 x3 y0 y1 y2 y3 : Int32} (h : ∀ k, BY (f k) (g k)) (h0 : BY x0 y0) (h1 : BY x1 y1) (h2 : BY x2 y2) (h3 : BY x3 y3) : ∀ k, BY (app4 f n x0 x1 x2 x3 k) (app4 g n y0 y1 y2 y3 k) := by
  intro k
  unfold app4
  repeat' split
  · exact h3
  · exact h2
  · exact h1
  · exact h0
  · exact h k
theorem feedI_9 {n : Nat} {a b d e x : Int32} : feedI I n a b d e x 9 = app4 (app4 (app4 (app4 (app4 (I 9) n (cB a 24) (cB a 16) (cB a 8) (cB a 0)) (n + 4) (cB b 24) (cB b 16) (cB b 8) (cB b 0)) (n + 8) (cB d 24) (cB d 16) (cB d 8) (cB d 0)) (n + 12) (cB e 24) (cB e 16) (cB e 8) (cB e 0)) (n + 16) (cB x 24) (cB x 16) (cB x 8) (cB x 0) := by
  unfold feedI
  rw [appI_9, appI_9, appI_9, appI_9, appI_9]
theorem feedIm_78 {n : Nat} {a b d e x : Int32} : feedIm I n a b d e x 77 = app4 (app4 (app4 (app4 (app4 (I 77) n (mB a 24) (mB a 16) (mB a 8) (mB a 0)) (n + 4) (mB b 24) (mB b 16) (mB b 8) (mB b 0)) (n + 8) (mB d 24) (mB d 16) (mB d 8) (mB d 0)) (n + 12) (mB e 24) (mB e 16) (mB e 8) (mB e 0)) (n + 16) (mB x 24) (mB x 16) (mB x 8) (mB x 0) := by
  unfold feedIm
  rw [fourI_78, fourI_78, fourI_78, fourI_78, fourI_78]
theorem feedI_o {n y : Nat} {a b d e x : Int32} (h8 : y ≠ 8) (h9 : y ≠ 9) : feedI I n a b d e x y = I y := by
  unfold feedI
  rw [appI_o h8 h9, appI_o h8 h9, appI_o h8 h9, appI_o h8 h9, appI_o h8 h9]
theorem feedIm_o {n y : Nat} {a b d e x : Int32} (h8 : y ≠ 47) (h9 : y ≠ 77) : feedIm I n a b d e x y = I y := by
  unfold feedIm
  rw [fourI_o h8 h9, fourI_o h8 h9, fourI_o h8 h9, fourI_o h8 h9, fourI_o h8 h9]
theorem feedIm_48 {n k : Nat} {a b d e x : Int32} (h : k ≠ 39) : feedIm I n a b d e x 47 k = I 47 k := by
  unfold feedIm
  rw [fourI_48 h, fourI_48 h, fourI_48 h, fourI_48 h, fourI_48 h]
theorem feed_rel (h : Rel sh I J R c) {n : Nat} (hn : n + 20 ≤ 200) (a b d e x : Int32) : Rel sh (feedIm (feedI I n a b d e x) n a b d e x) J R (c + 1) := by
  have ho : ∀ y, y ≠ 8 → y ≠ 9 → y ≠ 47 → y ≠ 77 → feedIm (feedI I n a b d e x) n a b d e x y = I y := fun y h1 h2 h3 h4 => by rw [feedIm_o h3 h4, feedI_o h1 h2]
  have h48 : ∀ k, k ≠ 39 → feedIm (feedI I n a b d e x) n a b d e x 47 k = I 47 k := fun k hk => by rw [feedIm_48 hk, feedI_o (by decide) (by decide)]
  refine ⟨⟨h.st, h.wp, h.bl.of (fun y hy => ho y (by have := h.st.len; omega) (by have := h.st.len; omega) (by have := h.st.len; omega) (by have := h.st.len; omega)) (fun _ _ => rfl) (fun _ _ => rfl)⟩, h.sc.fr (fun y hy => ho y (by omega) (by omega) (by omega) (by omega)) (fun k hk => h48 k (by omega)), h.rws.fr (fun y hy => ho y (by omega) (by omega) (by omega) (by omega)), h.kd.fr (fun y h1 h2 => ho y (by omega) (by omega) (by omega) (by omega)) (fun y h1 h2 => ho y (by omega) (by omega) (by omega) (by omega)), h.pots.fr (fun y h1 h2 => ho y (by omega) (by omega) (by omega) (by omega)) (fun y h1 h2 => ho y (by omega) (by omega) (by omega) (by omega)) (by rw [ho 0 (by decide) (by decide) (by decide) (by decide)]; exact Nat.le_refl _), ⟨⟨n + 20, hn, ?_, ?_⟩, ?_, ?_, ?_, ?_⟩, h.shf.fr (fun y hy => ho y (by omega) (by omega) (by omega) (by omega)), h.mv.fr (by rw [ho 42 (by decide) (by decide) (by decide) (by decide)]) (h48 56 (by decide)) (fun y hy => ho y (by omega) (by omega) (by omega) (by omega)), h.pc.fr (fun y h1 h2 => by by_cases e : y = 77; (omega); exact ho y (by omega) (by omega) (by omega) e) (fun y h1 => ho y (by omega) (by omega) (by omega) (by omega)) (fun b hb => ho _ (by omega) (by omega) (by omega) (by omega)) (by rw [ho 0 (by decide) (by decide) (by decide) (by decide)]) (h48 27 (by decide)) (Nat.le_succ c)⟩
  · rw [feedIm_o (by decide) (by decide)]
    rfl
  · rfl
  · rw [feedIm_o (y := 9) (by decide) (by decide), feedI_9, feedIm_78, feedI_o (y := 77) (by decide) (by decide)]
    exact app4_BY (app4_BY (app4_BY (app4_BY (app4_BY h.tx.2.1 (BY_24 _) (BY_16 _) (BY_8 _) (BY_0 _)) (BY_24 _) (BY_16 _) (BY_8 _) (BY_0 _)) (BY_24 _) (BY_16 _) (BY_8 _) (BY_0 _)) (BY_24 _) (BY_16 _) (BY_8 _) (BY_0 _)) (BY_24 _) (BY_16 _) (BY_8 _) (BY_0 _)
  · rw [ho 14 (by decide) (by decide) (by decide) (by decide), h48 42 (by decide)]
    exact h.tx.2.2.1
  · rw [ho 78 (by decide) (by decide) (by decide) (by decide), ho 15 (by decide) (by decide) (by decide) (by decide)]
    exact h.tx.2.2.2.1
  · rw [ho 79 (by decide) (by decide) (by decide) (by decide), ho 16 (by decide) (by decide) (by decide) (by decide)]
    exact h.tx.2.2.2.2
/-- the queries -/
theorem r_pot (h : Rel sh I J R c) (p x : Int32) : potRm I p x = potR I p x := by
  unfold potRm potR potR.potT0
  by_cases h1 : wI p 0 5 = 0
  · rw [if_pos h1, if_pos h1]
  rw [if_neg h1, if_neg h1]
  obtain ⟨e, l⟩ := ix_le (n := 5) h1 rfl (by decide)
  obtain ⟨q0, q⟩ := h.pots (ix p) (by omega)
  rw [q0]
  rcases q with q | ⟨⟨b, hb, eb⟩, g1, g2, g3, g4, _⟩
  · rw [q, if_neg (by decide), if_pos rfl]
  · have n1 : ¬ I (18 + ix p) 0 = -1 := by rw [eb]; exact nI_nm1 (by omega)
    have n2 : 0 ≤ I (18 + ix p) 0 := by rw [eb]; exact nI_pos' (by omega)
    rw [if_pos n2, if_neg n1, g1, g2, g3, g4]
    unfold rdym rdy
    rw [if_neg n1]
theorem r_piece {n : Nat} {pa : Nat → Nat} (hc : I 0 14 = nI n) (hm : I 47 27 = nI n) (hn : n < 2 ^ 31) (h : RPc sh I R n pa) (k x : Int32) : pieceRm I k x = pieceR I pa k x := by
  unfold pieceRm pieceR
  rw [hc, hm]
  by_cases h1 : wI k 0 (nI n - 1) = 0
  · rw [if_pos h1, if_pos h1]
  rw [if_neg h1, if_neg h1]
  have hk := (wI_n h1 hn).lt
  obtain ⟨_, _, _, p0, p1, p2, p3, p4, p5, p6, p7, p8⟩ := h.1 (ix k) hk
  rw [p0, p1, p2, p3, p6, p7, p8]
theorem cntF_c {p p' : Nat → Bool} : ∀ (m k : Nat) (x : Int32), (∀ j, k ≤ j → j < k + m → p j = p' j) → cntF p m k x = cntF p' m k x
  | 0, _, _, _ => rfl
  | m + 1, k, x, h => by
    unfold cntF
    rw [h k (Nat.le_refl k) (by omega)]
    exact cntF_c m (k + 1) _ (fun j h1 h2 => h j (by omega) (by omega))
theorem r_pay {n : Nat} {pa : Nat → Nat} (h : RPc sh I R n pa) (hk : RKd I) (g : Int32) : payRm I n g = payR I pa n g := by
  unfold payRm payR
  have key : ∀ q, cntF (stm I g q) n 0 0 = cntF (stc I pa g q) n 0 0 := by
    intro q
    refine cntF_c n 0 0 (fun j _ hj => ?_)
    obtain ⟨_, _, _, p0, p1, p2, p3, p4, p5, p6, p7, p8⟩ := h.1 j (by omega)
    unfold stm stc
    rw [p0, p1, p6, Bool.and_comm (decide (I (pa j) 6 = 1)), Bool.and_assoc]
  have kp : ∀ k, k < 5 → I 61 k = I (25 + k) 3 := fun k h5 => (hk k h5).1 3 (by decide)
  unfold payT
  rw [key, key, key, key, key]
  simp only [kp 0 (by decide), kp 1 (by decide), kp 2 (by decide), kp 3 (by decide), kp 4 (by decide)]
theorem r_shifted (h : RSh I) (x : Int32) : shiftedRm I x = shiftedR I x := by
  unfold shiftedRm shiftedR
  have e0 : (0 : Int32).toInt = 0 := by decide
  have e4 : (4 : Int32).toInt = 4 := by decide
  have e6 : (6 : Int32).toInt = 6 := by decide
  rcases h with ⟨h1, h2⟩ | ⟨h1, h2, h3, h4⟩
  · rw [if_pos h1]
    by_cases g : wI x 0 6 = 0
    · rw [if_pos g]
    · obtain ⟨e, l⟩ := ix_le (n := 6) g rfl (by decide)
      rw [if_neg g, h2 _ (by omega)]
  · have n6 : ¬ I 39 5 = 0 := by rw [h1]; decide
    rw [if_neg n6]
    by_cases g : wI x 0 4 = 0
    · rw [if_pos g]
      by_cases e5 : x = 5
      · subst e5
        rw [if_pos rfl, if_neg (by decide)]
        exact h3
      · by_cases e6' : x = 6
        · subst e6'
          rw [if_neg e5, if_pos rfl, if_neg (by decide)]
          exact h4
        · rw [if_neg e5, if_neg e6', if_pos]
          rw [wI_iff, e0, e4] at g
          rw [wI_iff, e0, e6]
          rintro ⟨q1, q2⟩
          have : x.toInt = 5 ∨ x.toInt = 6 := by omega
          rcases this with r | r
          · exact e5 (Int32.toInt_inj.mp (r.trans (by decide)))
          · exact e6' (Int32.toInt_inj.mp (r.trans (by decide)))
    · obtain ⟨e, l⟩ := ix_le (n := 4) g rfl (by decide)
      rw [if_neg g, if_neg (by rw [e]; exact wI_le (n := 6) (by omega) (by decide))]
      exact h2 _ (by omega)
theorem r_moved (h : RMove I) (y : Int32) : movedRm I y = movedR I y := by
  unfold movedRm movedR
  rw [h.2.2.1.eq, h.2.2.2]
theorem moved_at {x y : Int32} {n : Nat} (h : RN x y 10) {z : Int32} (hw : ¬ wI z 0 (x - 1) = 0) : At z 10 (ix z) := by
  obtain ⟨v, hv, rfl, rfl⟩ := h
  have q := wI_n hw (by omega)
  have e := q.eq (by omega)
  rw [e, ixn (by have := q.lt; omega)]
  exact at_nI (by have := q.lt; omega) (by decide)
theorem r_count (h : Rel sh I J R c) (x : Int32) : countRm I x = countR I x := by
  obtain ⟨n, pa, q1, q2, q3, p1, p2, p3, p4⟩ := id h.pc
  have e0 : (0 : Int32).toInt = 0 := by decide
  have e9 : (9 : Int32).toInt = 9 := by decide
  have a1 : (10 : Int32).toInt = 10 := by decide
  have a2 : (12 : Int32).toInt = 12 := by decide
  have a3 : (20 : Int32).toInt = 20 := by decide
  have a4 : (23 : Int32).toInt = 23 := by decide
  have a5 : (30 : Int32).toInt = 30 := by decide
  have a6 : (34 : Int32).toInt = 34 := by decide
  unfold countRm countR
  have hl : ([I 47 0, I 47 4, I 47 2, I 47 1, I 49 (ix (I 47 1)), I 47 5, I 47 12, I 47 27, I 47 39, I 47 42] : List Int32) = [I 0 11, I 4 5, I 1 3, I 1 2, I 3 (ix (I 1 2)), I 0 12, I 0 13, I 0 14, I 8 5, I 14 2] := by
    rw [h.sc.1.eq, h.sc.2.1.eq, h.sc.2.2.1.eq, h.sc.2.2.2.2.1, h.sc.2.2.2.2.2.1, h.sc.2.2.2.2.2.2.2.eq, h.rws.2.1, q2, q3, h.tx.1.eq, h.tx.2.2.1.eq]
  rw [hl]
  by_cases g : x < 0 ∨ 9 < x
  · rw [if_pos g]
    by_cases w1 : wI x 10 12 = 0
    · rw [if_pos w1, if_pos w1]
      by_cases w2 : wI x 20 23 = 0
      · rw [if_pos w2, if_pos w2]
        by_cases w3 : wI x 30 34 = 0
        · rw [if_pos w3, if_pos w3]
          exact (selT_out (hi := 9) g rfl (by decide)).symm
        · rw [if_neg w3, if_neg w3]
          exact (h.kd (ix (x - 30)) (wI_off w3 (by decide) (n := 5) (by decide)).lt).1 7 (by decide)
      · rw [if_neg w2, if_neg w2, h.rws.2.2.2.2.2]
    · rw [if_neg w1, if_neg w1]
      exact (p3 (ix (x - 10)) (wI_off w1 (by decide) (n := 3) (by decide)).lt).2
  · rw [if_neg g]
    have w1 : wI x 10 12 = 0 := by
      rw [wI_iff, a1, a2]
      intro q
      apply g
      right
      rw [Int32.lt_iff_toInt_lt, e9]
      omega
    have w2 : wI x 20 23 = 0 := by
      rw [wI_iff, a3, a4]
      intro q
      apply g
      right
      rw [Int32.lt_iff_toInt_lt, e9]
      omega
    have w3 : wI x 30 34 = 0 := by
      rw [wI_iff, a5, a6]
      intro q
      apply g
      right
      rw [Int32.lt_iff_toInt_lt, e9]
      omega
    rw [if_pos w1, if_pos w2, if_pos w3]
end RelQ
