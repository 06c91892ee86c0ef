/-! ===== shift, the class: words ===== -/
def p9 : Nat → Nat := fun c => 512 ^ c
theorem pS_v_le {K : Kd} {x : Nat → Nat} (h : ∀ c, x c ≠ 0 → K.u c = true) : ∀ n, pS K.v x n ≤ pS K.mi x n * 10240000
  | 0 => Nat.zero_le _
  | n + 1 => by
    show pS K.v x n + x n * K.v n ≤ (pS K.mi x n + x n * K.mi n) * 10240000
    have ih := pS_v_le h n
    rw [Nat.add_mul]
    refine Nat.add_le_add ih ?_
    rcases Nat.eq_zero_or_pos (x n) with r | r
    · rw [r, Nat.zero_mul]; exact Nat.zero_le _
    · have hu := h n (by omega)
      have a := (K.v_pos hu).2.1
      have b := (K.hm n hu).1
      rw [Nat.mul_assoc]
      refine Nat.mul_le_mul_left _ (Nat.le_trans a ?_)
      omega
theorem Pk.vb {K : Kd} {k i j : Nat} {x : Nat → Nat} (h : Pk K k i j x) (hi : i ≤ 480) : pS K.v x 5 ≤ 4915200000 := by
  have a := pS_v_le (K := K) (x := x) (fun c hc => (h.1 c hc).2.2) 5
  have b := h.2.1
  omega
theorem Pk.xb {K : Kd} {k i j : Nat} {x : Nat → Nat} (h : Pk K k i j x) (c : Nat) : x c ≤ i := by
  rcases Nat.eq_zero_or_pos (x c) with r | r
  · omega
  · obtain ⟨_, q2, q3⟩ := h.1 c (by omega)
    have a := pS_ge K.mi x c 5 q2
    have b := (K.hm c q3).1
    have d := h.2.1
    have e : x c * 1 ≤ x c * K.mi c := Nat.mul_le_mul_left _ b
    omega
/-- the class's memory holds the kinds K as a shift in the colour c sees them -/
def KC (I : IM) (c : Int32) (K : Kd) : Prop := ∀ k, k < 5 → suitF (I (25 + k) 0) (I (25 + k) 4) c = (if K.u k = true then 1 else 0) ∧ (K.u k = true → I (25 + k) 1 = nI (K.w k) ∧ I (25 + k) 2 = nI (K.mi k) ∧ I (25 + k) 3 = nI (K.p k))
theorem KC.o {I I' : IM} {c : Int32} {K : Kd} (h : KC I c K) (he : ∀ a, 25 ≤ a → a < 30 → I' a = I a) : KC I' c K := by
  intro k hk
  rw [he (25 + k) (by omega) (by omega)]
  exact h k hk
def QP (K : Kd) (q : Nat → Nat) (U n : Nat) : Prop := U ≤ n ∧ (∀ s, s < U → q s < n ∧ K.u (q s) = true) ∧ (∀ s t, s < t → t < U → q s < q t) ∧ ∀ c, c < n → K.u c = true → ∃ s, s < U ∧ q s = c
theorem QP.zero {K : Kd} : QP K pz 0 0 := ⟨Nat.le_refl _, fun s h => absurd h (Nat.not_lt_zero _), fun s t _ h => absurd h (Nat.not_lt_zero _), fun c h => absurd h (Nat.not_lt_zero _)⟩
theorem QP.skip {K : Kd} {q : Nat → Nat} {U n : Nat} (h : QP K q U n) (hn : ¬ K.u n = true) : QP K q U (n + 1) := by
  obtain ⟨h0, h1, h2, h3⟩ := h
  refine ⟨by omega, fun s hs => ⟨by have := (h1 s hs).1; omega, (h1 s hs).2⟩, h2, fun c hc hu => ?_⟩
  by_cases e : c = n
  · subst e; exact absurd hu hn
  · exact h3 c (by omega) hu
theorem QP.put {K : Kd} {q : Nat → Nat} {U n : Nat} (h : QP K q U n) (hn : K.u n = true) : QP K (fun s => if s = U then n else q s) (U + 1) (n + 1) := by
  obtain ⟨h0, h1, h2, h3⟩ := h
  refine ⟨by omega, fun s hs => ?_, fun s t hst ht => ?_, fun c hc hu => ?_⟩
  · show (if s = U then n else q s) < n + 1 ∧ K.u (if s = U then n else q s) = true
    split
    · exact ⟨by omega, hn⟩
    · have := h1 s (by omega)
      exact ⟨by omega, this.2⟩
  · show (if s = U then n else q s) < (if t = U then n else q t)
    rw [if_neg (show ¬ s = U by omega)]
    split
    · exact (h1 s (by omega)).1
    · exact h2 s t hst (by omega)
  · by_cases e : c = n
    · exact ⟨U, by omega, by simp [e]⟩
    · obtain ⟨s, hs, he⟩ := h3 c (by omega) hu
      exact ⟨s, by omega, by show (if s = U then n else q s) = c; rw [if_neg (by omega)]; exact he⟩
theorem QP.ql {K : Kd} {q : Nat → Nat} {U : Nat} (h : QP K q U 5) : QL K q U := h.2
/-- what findUsable leaves -/
def FU (I I' : IM) (K : Kd) (q : Nat → Nat) (U n : Nat) : Prop := (∀ a, a ≠ 39 → a ≠ 40 → I' a = I a) ∧ I' 39 4 = nI U ∧ QP K q U n ∧ ∀ s, s < U → I' 40 s = nI (q s)
def fuQ (sh : List Sh) (I : IM) (J : JM) (R : RM) (K : Kd) : CQ := fun v sh' I' J' R' => v = none ∧ sh' = sh ∧ J' = J ∧ R' = R ∧ ∃ q U, FU I I' K q U 5
theorem FU.skip {I I' : IM} {K : Kd} {q : Nat → Nat} {U n : Nat} (h : FU I I' K q U n) (hn : ¬ K.u n = true) : FU I I' K q U (n + 1) := ⟨h.1, h.2.1, h.2.2.1.skip hn, h.2.2.2⟩
theorem FU.put {I I' : IM} {K : Kd} {q : Nat → Nat} {U n : Nat} (h : FU I I' K q U n) (hn : K.u n = true) : FU I (iu (iu I' 40 U (nI n)) 39 4 (nI (U + 1))) K (fun s => if s = U then n else q s) (U + 1) (n + 1) := by
  obtain ⟨h1, h2, h3, h4⟩ := h
  refine ⟨fun a ha hb => ?_, iu_same, h3.put hn, fun s hs => ?_⟩
  · rw [iu_ne a ha, iu_ne a hb]; exact h1 a ha hb
  · show iu (iu I' 40 U (nI n)) 39 4 (nI (U + 1)) 40 s = nI (if s = U then n else q s)
    rw [iu_o (by decide)]
    split
    · rename_i e; rw [e, iu_same]
    · rename_i e; rw [iu_k e]; exact h4 s (by omega)
/-- a cell of the two tables -/
def Cl (K : Kd) (J : JM) (W N cl i j : Nat) : Prop := ∃ x, Lx K 0 i j x ∧ J W cl = lN (pS K.v x 5) ∧ J N cl = lN (pS p9 x 5)
theorem shl9 : ∀ q, q < 5 → (1 : Int64) <<< ((9 * nI q).toInt64 &&& 63) = lN (p9 q) := by decide
theorem sumL {a p m : Nat} (hp : p ≤ 10000) (hm : m ≤ 60) (h1 : 1 ≤ p) : lN a + (nI p).toInt64 * 1024 - (nI m).toInt64 = lN (a + (1024 * p - m)) := by
  rw [nI_l (by omega), nI_l (by omega), show (1024 : Int64) = lN 1024 by rfl, lN_mul, lN_add, lN_sub (by omega)]
  congr 1
  omega
theorem ju_same {J : JM} {a k : Nat} {x : Int64} : ju J a k x a k = x := by simp [ju]
theorem ju_o {J : JM} {a b k j : Nat} {x : Int64} (h : b ≠ a) : ju J a k x b j = J b j := by simp [ju, h]
theorem ju_k {J : JM} {a b k j : Nat} {x : Int64} (h : j ≠ k) : ju J a k x b j = J b j := by simp [ju, h]
theorem ju_ne' {J : JM} {a k : Nat} {x : Int64} {b : Nat} (h : b ≠ a) : ju J a k x b = J b := by funext j; exact ju_o h
def UQ (I : IM) (K : Kd) (q : Nat → Nat) (U : Nat) : Prop := I 39 4 = nI U ∧ QP K q U 5 ∧ ∀ s, s < U → I 40 s = nI (q s)
/-- fillRow: rows before j, as far as they are reached from g on -/
def GRows (K : Kd) (J : JM) (W N M j b : Nat) : Prop := ∀ g, g < j → j ≤ g + b → ∀ m, m ≤ M → Cl K J W N (g % 51 * 481 + m) m g
def GRow (K : Kd) (J : JM) (W N j n : Nat) : Prop := ∀ m, m < n → Cl K J W N (j % 51 * 481 + m) m j
theorem Cl.keep {K : Kd} {J : JM} {W N cl c2 i j : Nat} {a b : Int64} (h : Cl K J W N cl i j) (hc : cl ≠ c2) : Cl K (ju (ju J W c2 a) N c2 b) W N cl i j := by
  obtain ⟨x, h1, h2, h3⟩ := h
  exact ⟨x, h1, by rw [ju_k hc, ju_k hc]; exact h2, by rw [ju_k hc, ju_k hc]; exact h3⟩
theorem Cl.new {K : Kd} {J : JM} {W N cl i j : Nat} {x : Nat → Nat} (hx : Lx K 0 i j x) (hWN : W ≠ N) : Cl K (ju (ju J W cl (lN (pS K.v x 5))) N cl (lN (pS p9 x 5))) W N cl i j :=
  ⟨x, hx, by rw [ju_o hWN, ju_same], ju_same⟩
theorem GRows.keep {K : Kd} {J : JM} {W N M j c2 : Nat} {a b : Int64} (h : GRows K J W N M j 50) (hM : M ≤ 480) (hc : ∃ m, m ≤ 480 ∧ c2 = j % 51 * 481 + m) : GRows K (ju (ju J W c2 a) N c2 b) W N M j 50 := by
  obtain ⟨m2, hm2, rfl⟩ := hc
  intro g hg hb m hm
  refine (h g hg hb m hm).keep ?_
  omega
theorem GRow.add {K : Kd} {J : JM} {W N j n : Nat} {x : Nat → Nat} (h : GRow K J W N j n) (hx : Lx K 0 n j x) (hWN : W ≠ N) : GRow K (ju (ju J W (j % 51 * 481 + n) (lN (pS K.v x 5))) N (j % 51 * 481 + n) (lN (pS p9 x 5))) W N j (n + 1) := by
  intro m hm
  by_cases e : m = n
  · subst e; exact Cl.new hx hWN
  · exact (h m (by omega)).keep (by omega)
theorem GRows.next {K : Kd} {J : JM} {W N M j : Nat} (h : GRows K J W N M j 50) (hr : GRow K J W N j (M + 1)) : GRows K J W N M (j + 1) 51 := by
  intro g hg hb m hm
  by_cases e : g = j
  · subst e; exact hr m (by omega)
  · exact h g (by omega) (by omega) m hm
theorem GRows.less {K : Kd} {J : JM} {W N M j : Nat} (h : GRows K J W N M j 51) : GRows K J W N M j 50 := fun g hg hb m hm => h g hg (by omega) m hm
def frQ (sh : List Sh) (I : IM) (J : JM) (R : RM) (K : Kd) (W N M j : Nat) : CQ := fun v sh' I' J' R' => v = none ∧ sh' = sh ∧ I' = I ∧ R' = R ∧ (∀ a, a ≠ W → a ≠ N → J' a = J a) ∧ GRows K J' W N M (j + 1) 51
/-- a cell of the row that is being made: t kinds are done -/
def FC (K : Kd) (q : Nat → Nat) (J : JM) (W N j t i : Nat) : Prop := ∃ b x, b < 2 ^ 62 ∧ FInv K q i j t b x ∧ J W (j % 51 * 481 + i) = lN b ∧ J N (j % 51 * 481 + i) = lN (pS p9 x 5)
theorem FC.keep {K : Kd} {q : Nat → Nat} {J : JM} {W N j t i n : Nat} {a b : Int64} (h : FC K q J W N j t i) (hi : i ≠ n) : FC K q (ju (ju J W (j % 51 * 481 + n) a) N (j % 51 * 481 + n) b) W N j t i := by
  obtain ⟨c, x, h0, h1, h2, h3⟩ := h
  have hc : j % 51 * 481 + i ≠ j % 51 * 481 + n := by omega
  exact ⟨c, x, h0, h1, by rw [ju_k hc, ju_k hc]; exact h2, by rw [ju_k hc, ju_k hc]; exact h3⟩
theorem FC.new {K : Kd} {q : Nat → Nat} {J : JM} {W N j t n b : Nat} {x : Nat → Nat} (hF : FInv K q n j t b x) (hb : b < 2 ^ 62) (hWN : W ≠ N) : FC K q (ju (ju J W (j % 51 * 481 + n) (lN b)) N (j % 51 * 481 + n) (lN (pS p9 x 5))) W N j t n :=
  ⟨b, x, hb, hF, by rw [ju_o hWN, ju_same], ju_same⟩
theorem FC.skip {K : Kd} {q : Nat → Nat} {J : JM} {W N j t i : Nat} (h : FC K q J W N j t i) (hn : ¬ Fit K i j (q t)) : FC K q J W N j (t + 1) i := by
  obtain ⟨b, x, h0, h1, h2⟩ := h
  exact ⟨b, x, h0, h1.skip hn, h2⟩
theorem FC.zero {K : Kd} {q : Nat → Nat} {J : JM} {W N j i : Nat} (h1 : J W (j % 51 * 481 + i) = 0) (h2 : J N (j % 51 * 481 + i) = 0) : FC K q J W N j 0 i :=
  ⟨0, pz, by decide, Or.inl ⟨rfl, rfl, fun s hs => absurd hs (Nat.not_lt_zero _)⟩, h1, by rw [pS_z]; exact h2⟩
/-- all kinds done: the row is made -/
theorem FC.done {K : Kd} {q : Nat → Nat} {J : JM} {W N M j U i : Nat} (hq : QL K q U) (hG : GRows K J W N M j 50) (hi : i ≤ M) (h : FC K q J W N j U i) : Cl K J W N (j % 51 * 481 + i) i j := by
  obtain ⟨b, x, h0, h1, h2, h3⟩ := h
  have hL := h1.done hq (fun s hs hf => by
    have hu := (hq.us s hs).2
    have hw := K.hw _ hu
    obtain ⟨y, hy, _⟩ := hG (j - K.w (q s)) (by have := hf.2; omega) (by omega) (i - K.mi (q s)) (by omega)
    exact ⟨y, hy⟩)
  have hv := h1.val (fun s hs => (hq.us s hs).1)
  exact ⟨x, hL, by rw [h2, hv], h3⟩
/-- addOneMore -/
def aoQ (sh : List Sh) (I : IM) (J : JM) (R : RM) (K : Kd) (q : Nat → Nat) (W N M j t : Nat) : CQ := fun v sh' I' J' R' => v = none ∧ sh' = sh ∧ I' = I ∧ R' = R ∧ (∀ a, a ≠ W → a ≠ N → J' a = J a) ∧ GRows K J' W N M j 50 ∧ ∀ i, i ≤ M → FC K q J' W N j t i
theorem gainL {p m : Nat} (hp : p ≤ 10000) (hm : m ≤ 60) (h1 : 1 ≤ p) : (nI p).toInt64 * 1024 - (nI m).toInt64 = lN (1024 * p - m) := by
  rw [nI_l (by omega), nI_l (by omega), show (1024 : Int64) = lN 1024 by rfl, lN_mul, lN_sub (by omega)]
  congr 1
  omega
/-- keep -/
theorem p9_5 (x : Nat → Nat) : pS p9 x 5 = x 0 + 512 * (x 1 + 512 * (x 2 + 512 * (x 3 + 512 * x 4))) := by
  simp only [pS, p9]
  omega
theorem kp_shr {a d : Nat} {D : Int64} (hD : (D.toBitVec.smod 64).toNat = d) (h : a < 2 ^ 62) : lN a >>> D = lN (a / 2 ^ d) := by
  have hd : a / 2 ^ d ≤ a := Nat.div_le_self _ _
  apply Int64.toInt_inj.mp
  have e : (lN a >>> D).toInt = (lN a).toInt >>> d := by
    rw [← hD]
    exact BitVec.toInt_sshiftRight ..
  rw [e, Int.shiftRight_eq_div_pow, pk_lT (by omega), pk_lT (by omega)]
  rfl
def kpF (y : Int64) (k : Int32) : Int32 := (y >>> ((9 * k).toInt64 &&& 63)).toInt32 &&& 511
theorem kpF_x {x : Nat → Nat} (hx : ∀ c, x c < 512) {k : Nat} (hk : k < 5) : kpF (lN (pS p9 x 5)) (nI k) = nI (x k) := by
  have h0 := hx 0
  have h1 := hx 1
  have h2 := hx 2
  have h3 := hx 3
  have h4 := hx 4
  have hb : pS p9 x 5 < 2 ^ 62 := by rw [p9_5]; omega
  have e : ∀ d : Nat, (((9 * nI k).toInt64 &&& 63).toBitVec.smod 64).toNat = d → kpF (lN (pS p9 x 5)) (nI k) = nI ((pS p9 x 5 / 2 ^ d) % 2 ^ 32 % 512) := by
    intro d hd
    unfold kpF
    rw [kp_shr hd hb, lN_i, show nI (pS p9 x 5 / 2 ^ d) = nI (pS p9 x 5 / 2 ^ d % 2 ^ 32) from by
      apply Int32.toBitVec_inj.mp
      show BitVec.ofNat 32 _ = BitVec.ofNat 32 _
      apply BitVec.eq_of_toNat_eq
      simp]
    exact pk_andN (Nat.mod_lt _ (by decide)) 9 rfl
  rcases (show k = 0 ∨ k = 1 ∨ k = 2 ∨ k = 3 ∨ k = 4 by omega) with rfl | rfl | rfl | rfl | rfl
  · rw [e 0 (by decide), p9_5]; congr 1; omega
  · rw [e 9 (by decide), p9_5]; congr 1; omega
  · rw [e 18 (by decide), p9_5]; congr 1; omega
  · rw [e 27 (by decide), p9_5]; congr 1; omega
  · rw [e 36 (by decide), p9_5]; congr 1; omega
section VE3
variable {E : En} {X : Ctx} {Z : State → Prop} {cells slots : Nat} {sh : List Sh} {I : IM} {J J2 : JM} {R : RM} {pc : Nat} {lv : List (Option Value)} {st : List Value}
theorem v_eql {x y : Int64} (h : x = y) (k : V E X Z cells slots sh I J R pc lv (.long y :: st)) : V E X Z cells slots sh I J R pc lv (.long x :: st) := h ▸ k
theorem v_eqJ (h : J = J2) (k : V E X Z cells slots sh I J2 R pc lv st) : V E X Z cells slots sh I J R pc lv st := h ▸ k
end VE3
theorem nI_nm1 {n : Nat} (h : n < 2 ^ 31) : ¬ nI n = -1 := by
  intro e
  have := congrArg Int32.toInt e
  rw [nI_toInt h, show (-1 : Int32).toInt = -1 by decide] at this
  omega
theorem nI_nlt2 {a b : Nat} (h : ¬ nI a < nI b) (hb : b < 2 ^ 31) : b ≤ a := by
  rcases Nat.lt_or_ge a b with r | r
  · exact absurd (nI_lt r hb) h
  · exact r
def kpM (I : IM) (y : Int64) (f : Nat) : Nat → Int32
  | 0 => 0
  | n + 1 => kpM I y f n + kpF y (nI n) * I (25 + n) f
def kpQ (sh : List Sh) (I : IM) (J : JM) (R : RM) (y : Int64) : CQ := fun v sh' I' J' R' => v = some (.int (kpM I y 3 5)) ∧ sh' = sh ∧ J' = J ∧ R' = R ∧ (∀ a, a ≠ 39 → a ≠ 41 → I' a = I a) ∧ (∀ k, k < 6 → I' 39 k = I 39 k) ∧ I' 39 6 = kpM I y 2 5 ∧ I' 39 7 = kpM I y 1 5 ∧ ∀ k, k < 5 → I' 41 k = kpF y (nI k)
theorem kpM_x {I : IM} {c : Int32} {K : Kd} (h : KC I c K) {x : Nat → Nat} (hx : ∀ c, x c < 512) (hu : ∀ c, x c ≠ 0 → K.u c = true) (f : Nat) (F : Nat → Nat) (hf : ∀ k, k < 5 → K.u k = true → I (25 + k) f = nI (F k)) : ∀ n, n ≤ 5 → kpM I (lN (pS p9 x 5)) f n = nI (pS F x n)
  | 0, _ => rfl
  | n + 1, hn => by
    show kpM I (lN (pS p9 x 5)) f n + kpF (lN (pS p9 x 5)) (nI n) * I (25 + n) f = nI (pS F x n + x n * F n)
    rw [kpM_x h hx hu f F hf n (by omega), kpF_x hx (by omega)]
    rcases Nat.eq_zero_or_pos (x n) with r | r
    · rw [r, Nat.zero_mul, show nI 0 = 0 by rfl, Int32.zero_mul, Nat.add_zero, Int32.add_zero]
    · rw [hf n (by omega) (hu n (by omega)), pk_mul, nI_add]
/-- where the two tables of the class lie -/
def WP (sh : List Sh) (R : RM) : Prop := (R 39 0 = none ∧ R 39 1 = none) ∨ ∃ W N, R 39 0 = some W ∧ R 39 1 = some N ∧ W ≠ N ∧ 90 ≤ W ∧ 90 ≤ N ∧ sh[W]? = some (.inr (1, 24531)) ∧ sh[N]? = some (.inr (1, 24531))
def shQ (sh2 : List Sh) (I : IM) (R2 : RM) (K : Kd) (M G : Nat) : CQ := fun v sh' I' J' R' => ∃ x, Lx K 0 M G x ∧ v = some (.int (nI (pS K.p x 5))) ∧ sh' = sh2 ∧ R' = R2 ∧ Blank sh' I' J' R' ∧ (∀ a, a < 39 ∨ 41 < a → I' a = I a) ∧ I' 39 5 = 1 ∧ I' 39 6 = nI (pS K.mi x 5) ∧ I' 39 7 = nI (pS K.w x 5) ∧ ∀ k, k < 5 → I' 41 k = nI (x k)
theorem Blank.of {sh : List Sh} {I I' : IM} {J J' : JM} {R R' : RM} (h : Blank sh I J R) (hi : ∀ a, sh.length ≤ a → I' a = I a) (hj : ∀ a, sh.length ≤ a → J' a = J a) (hr : ∀ a, sh.length ≤ a → R' a = R a) : Blank sh I' J' R' := by
  intro a ha
  rw [hi a ha, hj a ha, hr a ha]
  exact h a ha
theorem Blank.app {sh : List Sh} {I : IM} {J : JM} {R : RM} (h : Blank sh I J R) (y : Sh) : Blank (sh ++ [y]) I J R := by
  intro a ha
  rw [List.length_append] at ha
  exact h a (by simp at ha; omega)
theorem St.ru39 {sh : List Sh} {R : RM} (h : St sh R) {k : Nat} (hk : k < 2) (x : Option Nat) : St sh (ru R 39 k x) := by
  refine ⟨h.1, fun b j c hb => ?_⟩
  by_cases e : b = 39 ∧ j = k
  · obtain ⟨rfl, rfl⟩ := e
    exfalso
    rcases (show j = 0 ∨ j = 1 by omega) with rfl | rfl <;> (rw [show ptr 39 _ = none from rfl] at hb; cases hb)
  · rw [ru_ap, if_neg e]
    exact h.2 b j c hb
theorem Lx.u0 {K : Kd} {q : Nat → Nat} {i j : Nat} (h : QL K q 0) : Lx K 0 i j pz :=
  FInv.done h (Or.inl ⟨rfl, rfl, fun s hs => absurd hs (Nat.not_lt_zero _)⟩) (fun s hs => absurd hs (Nat.not_lt_zero _))
