/-! ===== rows: stores into arrays, new cells, answers, calls ===== -/
section VN1
variable {E : En} {X : Ctx} {own : String} {cc : ByteArray} {nL : Nat} {ret : Option FieldType} {nm : String} {rm : Room} {Z : State → Prop} {cells slots : Nat} {sh : List Sh} {I : IM} {J : JM} {R : RM} {pc : Nat} {lv : List (Option Value)} {st : List Value}
theorem v_iastore {a n : Nat} {i x : Int32} (j : Nat) (C : Cx E X own cc nL ret nm rm) (hsh : sh[a]? = some (.inr (0, n))) (hj : At i n j) (hd : decode cc pc = .ok (.iastore, 1)) (k : V E X Z cells slots sh (iu I a j x) J R (pc + 1) lv st) : V E X Z cells slots sh I J R pc lv (.int x :: .int i :: .ref a :: st) := by
  intro H locs ls hP hS hl
  have hc : H[e_b E + a]? = some (arrV (E.2.2.1 0) n (fun q => .int (I a q))) := hP.1 a _ (m_ws_get hsh)
  refine W.iast C.1 C.2.1 hc ((C.2.2.2.2.2.2.1.2 0 _ rfl).1 n (fun q => .int (I a q))) (fun q => by cases q) (by rw [arrV_size]; exact hj.2) rfl rfl hd fun H1 e z oq => ?_
  refine k H1 _ ls (m_upd hP hsh iu_ne (fun _ _ => rfl) (fun _ _ => rfl) ?_ z oq) (hS.put z oq (Nat.le_add_right _ _)) hl
  show H1[e_b E + a]? = some (arrV (E.2.2.1 0) n (fun q => .int (iu I a j x a q)))
  rw [e, arrV_store, hj.1]
  congr 2
  funext q
  by_cases hq : q = j <;> simp [updV, iu, hq]
theorem v_bastore {a n : Nat} {i x : Int32} (j : Nat) (C : Cx E X own cc nL ret nm rm) (hsh : sh[a]? = some (.inr (2, n))) (hj : At i n j) (hx : narrow .byte (.int x) = .int x) (hd : decode cc pc = .ok (.bastore, 1)) (k : V E X Z cells slots sh (iu I a j x) J R (pc + 1) lv st) : V E X Z cells slots sh I J R pc lv (.int x :: .int i :: .ref a :: st) := by
  intro H locs ls hP hS hl
  have hc : H[e_b E + a]? = some (arrV (E.2.2.1 2) n (fun q => .int (I a q))) := hP.1 a _ (m_ws_get hsh)
  refine W.bast C.1 C.2.1 hc ((C.2.2.2.2.2.2.1.2 2 _ rfl).1 n (fun q => .int (I a q))) (fun q => by cases q) (by rw [arrV_size]; exact hj.2) rfl rfl hd fun H1 e z oq => ?_
  refine k H1 _ ls (m_upd hP hsh iu_ne (fun _ _ => rfl) (fun _ _ => rfl) ?_ z oq) (hS.put z oq (Nat.le_add_right _ _)) hl
  show H1[e_b E + a]? = some (arrV (E.2.2.1 2) n (fun q => .int (iu I a j x a q)))
  rw [e, hx, arrV_store, hj.1]
  congr 2
  funext q
  by_cases hq : q = j <;> simp [updV, iu, hq]
theorem v_zastore {a n : Nat} {i x : Int32} (j : Nat) (C : Cx E X own cc nL ret nm rm) (hsh : sh[a]? = some (.inr (3, n))) (hj : At i n j) (hx : narrow .boolean (.int x) = .int x) (hd : decode cc pc = .ok (.bastore, 1)) (k : V E X Z cells slots sh (iu I a j x) J R (pc + 1) lv st) : V E X Z cells slots sh I J R pc lv (.int x :: .int i :: .ref a :: st) := by
  intro H locs ls hP hS hl
  have hc : H[e_b E + a]? = some (arrV (E.2.2.1 3) n (fun q => .int (I a q))) := hP.1 a _ (m_ws_get hsh)
  refine W.zast C.1 C.2.1 hc ((C.2.2.2.2.2.2.1.2 3 _ rfl).1 n (fun q => .int (I a q))) (fun q => by cases q) (by rw [arrV_size]; exact hj.2) rfl rfl hd fun H1 e z oq => ?_
  refine k H1 _ ls (m_upd hP hsh iu_ne (fun _ _ => rfl) (fun _ _ => rfl) ?_ z oq) (hS.put z oq (Nat.le_add_right _ _)) hl
  show H1[e_b E + a]? = some (arrV (E.2.2.1 3) n (fun q => .int (iu I a j x a q)))
  rw [e, hx, arrV_store, hj.1]
  congr 2
  funext q
  by_cases hq : q = j <;> simp [updV, iu, hq]
theorem v_lastore {a n : Nat} {i : Int32} {x : Int64} (j : Nat) (C : Cx E X own cc nL ret nm rm) (hsh : sh[a]? = some (.inr (1, n))) (hj : At i n j) (hd : decode cc pc = .ok (.lastore, 1)) (k : V E X Z cells slots sh I (ju J a j x) R (pc + 1) lv st) : V E X Z cells slots sh I J R pc lv (.long x :: .int i :: .ref a :: st) := by
  intro H locs ls hP hS hl
  have hc : H[e_b E + a]? = some (arrV (E.2.2.1 1) n (fun q => .long (J a q))) := hP.1 a _ (m_ws_get hsh)
  refine W.last C.1 C.2.1 hc ((C.2.2.2.2.2.2.1.2 1 _ rfl).1 n (fun q => .long (J a q))) (fun q => by cases q) (by rw [arrV_size]; exact hj.2) rfl rfl hd fun H1 e z oq => ?_
  refine k H1 _ ls (m_upd hP hsh (fun _ _ => rfl) ju_ne (fun _ _ => rfl) ?_ z oq) (hS.put z oq (Nat.le_add_right _ _)) hl
  show H1[e_b E + a]? = some (arrV (E.2.2.1 1) n (fun q => .long (ju J a j x a q)))
  rw [e, arrV_store, hj.1]
  congr 2
  funext q
  by_cases hq : q = j <;> simp [updV, ju, hq]
/-- arrays of references: type t of e_tys, of the class cn -/
def TyR (E : En) (t : Nat) (cn : String) : Prop := (e_tys E)[t]? = some (E.2.2.1 t, .object cn) ∧ ¬ t = 1 ∧ ¬ t < 4
theorem m_arrR {b t : Nat} {i : Nat → Int32} {j : Nat → Int64} {r : Nat → Option Nat} (h1 : ¬ t = 1) (h2 : ¬ t < 4) : m_arr b t i j r = .inr (.inr (.inr (.inr (fun k => (r k).map (b + ·))))) := by simp [m_arr, h1, h2]
theorem m_atR {E : En} {sh : List Sh} {I : IM} {J : JM} {R : RM} {H : Heap} {t a n : Nat} {cn : String} (hP : m_P E sh I J R H) (hsh : sh[a]? = some (.inr (t, n))) (hT : TyR E t cn) : H[e_b E + a]? = some (arrV (E.2.2.1 t) n (fun q => va_rf ((R a q).map (e_b E + ·)))) := by
  have h := hP.1 a _ (m_ws_get hsh)
  have h2 : H[e_b E + a]? = some (vp_cell (E.2.2.1 t) (n, m_arr (e_b E) t (I a) (J a) (R a))) := h
  rwa [m_arrR hT.2.1 hT.2.2] at h2
theorem v_aaload {t a n b : Nat} {cn : String} {i : Int32} (j : Nat) (C : Cx E X own cc nL ret nm rm) (hsh : sh[a]? = some (.inr (t, n))) (hT : TyR E t cn) (hj : At i n j) (hr : R a j = some b) (hd : decode cc pc = .ok (.aaload, 1)) (k : V E X Z cells slots sh I J R (pc + 1) lv (.ref b :: st)) : V E X Z cells slots sh I J R pc lv (.int i :: .ref a :: st) := by
  intro H locs ls hP hS hl
  have hc := m_atR hP hsh hT
  have hlt : i.toNatClampNeg < n := Nat.not_le.mp fun q => hj.2 (Or.inr q)
  refine W.aald (v := .ref (e_b E + b)) (ty := .object cn) C.1 C.2.1 hc ((C.2.2.2.2.2.2.1.2 t _ hT.1).1 n _) rfl (fun q => by cases q) (by rw [arrV_size]; exact hj.2) ?_ rfl rfl hd (k H locs ls hP hS hl)
  rw [arrV_read _ _ hlt, hj.1, hr]
  rfl
theorem v_aaloadN {t a n : Nat} {cn : String} {i : Int32} (j : Nat) (C : Cx E X own cc nL ret nm rm) (hsh : sh[a]? = some (.inr (t, n))) (hT : TyR E t cn) (hj : At i n j) (hr : R a j = none) (hd : decode cc pc = .ok (.aaload, 1)) (k : V E X Z cells slots sh I J R (pc + 1) lv (.null :: st)) : V E X Z cells slots sh I J R pc lv (.int i :: .ref a :: st) := by
  intro H locs ls hP hS hl
  have hc := m_atR hP hsh hT
  have hlt : i.toNatClampNeg < n := Nat.not_le.mp fun q => hj.2 (Or.inr q)
  refine W.aald (v := .null) (ty := .object cn) C.1 C.2.1 hc ((C.2.2.2.2.2.2.1.2 t _ hT.1).1 n _) rfl (fun q => by cases q) (by rw [arrV_size]; exact hj.2) ?_ rfl rfl hd (k H locs ls hP hS hl)
  rw [arrV_read _ _ hlt, hj.1, hr]
  rfl
theorem v_aastore {t a n b ci : Nat} {q : vw_C} {i : Int32} (j : Nat) (C : Cx E X own cc nL ret nm rm) (hsh : sh[a]? = some (.inr (t, n))) (hq : vwCl[ci]? = some q) (hT : TyR E t q.1) (hb : sh[b]? = some (.inl ci)) (hj : At i n j) (hd : decode cc pc = .ok (.aastore, 1)) (k : V E X Z cells slots sh I J (ru R a j (some b)) (pc + 1) lv st) : V E X Z cells slots sh I J R pc lv (.ref b :: .int i :: .ref a :: st) := by
  intro H locs ls hP hS hl
  have hc := m_atR hP hsh hT
  have hlt : i.toNatClampNeg < n := Nat.not_le.mp fun q => hj.2 (Or.inr q)
  have h0 : ¬ i < 0 := fun q => hj.2 (Or.inl q)
  obtain ⟨r', hr', cellV, g1, g2, g3, -⟩ := hP.1 b _ (m_ws_get hb)
  have hcls := (C.2.2.2.2.2.2.1.1 ci q hq).2
  obtain ⟨kA, comp, k1, k2, k3, -⟩ := (C.2.2.2.2.2.2.1.2 t _ hT.1).2
  have hcomp : comp = (e_D E).1 ci := Option.some.inj (k3.symm.trans hcls.1)
  subst hcomp
  obtain ⟨kC, hkC, -⟩ := hcls.2
  refine W.aast C.1 C.2.1 hc (fun q h => by cases h) (fun h => by cases h) k1 k2 rfl hkC ⟨h0, by rw [arrV_size]; exact hlt⟩ g1 (fun q h => by rw [g3] at h; cases h) (by rw [g2]; exact hkC) (by rw [g2]; exact va_assign hcls) rfl rfl hd fun H1 e z oq => ?_
  refine k H1 _ ls (m_upd hP hsh (fun _ _ => rfl) (fun _ _ => rfl) ru_ne ?_ z oq) (hS.put z oq (Nat.le_add_right _ _)) hl
  show H1[e_b E + a]? = some (vp_cell (E.2.2.1 t) (n, m_arr (e_b E) t (I a) (J a) (ru R a j (some b) a)))
  rw [m_arrR hT.2.1 hT.2.2, vp_cell_q, e, arrV_store, hj.1]
  congr 2
  funext q
  by_cases hq : q = j <;> simp [updV, ru, hq, va_rf]
theorem v_alen {t a n : Nat} (C : Cx E X own cc nL ret nm rm) (hsh : sh[a]? = some (.inr (t, n))) (ht : t < 8) (hd : decode cc pc = .ok (.arraylength, 1)) (k : V E X Z cells slots sh I J R (pc + 1) lv (.int (nI n) :: st)) : V E X Z cells slots sh I J R pc lv (.ref a :: st) := by
  intro H locs ls hP hS hl
  have ht2 : ∃ ty, (e_tys E)[t]? = some (E.2.2.1 t, ty) := by
    rcases (show t = 0 ∨ t = 1 ∨ t = 2 ∨ t = 3 ∨ t = 4 ∨ t = 5 ∨ t = 6 ∨ t = 7 by omega) with rfl | rfl | rfl | rfl | rfl | rfl | rfl | rfl <;> exact ⟨_, rfl⟩
  obtain ⟨ty, hty⟩ := ht2
  exact va_alen C.1 C.2.1 C.2.2.2.2.2.2.1 hP.1 a t (m_ws_get hsh) hty rfl hd (k H locs ls hP hS hl)
theorem m_new {I' : IM} {J' : JM} {R' : RM} {H H1 : Heap} {h : Sh} (hP : m_P E sh I J R H) (hI : ∀ b, b < sh.length → I' b = I b) (hJ : ∀ b, b < sh.length → J' b = J b) (hR : ∀ b, b < sh.length → R' b = R b) (hat : va_at (e_D E) vwCl (e_b E + sh.length, m_cell E h (I' sh.length) (J' sh.length) (R' sh.length)) H1) (z : H1.size = H.size + 1) (oq : ∀ q : Nat, q < H.size → H1[q]? = H[q]?) : m_P E (sh ++ [h]) I' J' R' H1 := by
  refine ⟨?_, by rw [z, hP.2, List.length_append]; rfl⟩
  rw [← m_ws_push hI hJ hR rfl]
  refine (hP.1.kept (fun k x hx => oq x.1 ((hP.1 k x hx).lt))).app (fun k x hx => ?_)
  have hz : k < 1 := (List.getElem?_eq_some_iff.mp hx).1
  rw [show k = 0 by omega] at hx
  cases hx
  exact hat
theorem m_Snew {A : Nat → Prop} {H0 H H1 : Heap} {locs : List Loc} (hS : va_S A H0 H locs) (z : H1.size = H.size + 1) (oq : ∀ q : Nat, q < H.size → H1[q]? = H[q]?) : va_S A H0 H1 locs := ⟨Nat.le_trans hS.1 (by omega), fun x h1 h2 => (oq x (Nat.lt_of_lt_of_le h1 hS.1)).trans (hS.2.1 x h1 h2), hS.2.2⟩
theorem i0_lt {a : Nat} : ∀ b, b < a → i0 I a b = I b := fun b hb => by funext j; simp [i0, Nat.ne_of_lt hb]
theorem j0_lt {a : Nat} : ∀ b, b < a → j0 J a b = J b := fun b hb => by funext j; simp [j0, Nat.ne_of_lt hb]
theorem r0_lt {a : Nat} : ∀ b, b < a → r0 R a b = R b := fun b hb => by funext j; simp [r0, Nat.ne_of_lt hb]
theorem i0_at {a : Nat} : i0 I a a = fun _ => 0 := by funext j; simp [i0]
theorem j0_at {a : Nat} : j0 J a a = fun _ => 0 := by funext j; simp [j0]
theorem v_new {idx ci : Nat} {q : vw_C} (C : Cx E X own cc nL ret nm rm) (hq : vwCl[ci]? = some q) (hcl : Cond.classLink own idx q.1 ∈ TW) (hin : Cond.instantiable q.1 (m_N ci) ∈ TW) (hini : Cond.initialized q.1 ∈ TW) (hcells : cells + 1 ≤ rm.cells) (hslots : slots + m_N ci ≤ rm.slots) (hd : decode cc pc = .ok (.new idx, 3)) (k : V E X Z (cells + 1) (slots + m_N ci) (sh ++ [.inl ci]) (i0 I sh.length) J (r0 R sh.length) (pc + 3) lv (.ref sh.length :: st)) : V E X Z cells slots sh I J R pc lv st := by
  intro H locs ls hP hS hl
  have hc0 := m_cls hq
  have hN : q.2.2 = m_N ci := hc0.2.2.2
  obtain ⟨hx, hb, hml, hown, hts, hnw, hK, hbs, hlk, hrt, hnm, hR0⟩ := C
  have hKn := hK.1 ci _ hq
  have hci : ci < 12 := (List.getElem?_eq_some_iff.mp hq).1
  refine W.newcK hx hb hown (hts _ hcl) (hts _ hin) (hts _ hini) rfl hd (by rw [hR0]; exact hcells) (by rw [hR0]; exact hslots) hKn.2.1 hP.2 fun H1 kC hkC e1 z1 o1 => ?_
  refine k H1 _ ls (m_new hP i0_lt (fun _ _ => rfl) r0_lt ⟨q, hq, ?_⟩ (by rw [z1, hP.2]) (fun x hx => o1 x (by rw [← hP.2]; exact hx))) (m_Snew hS (by rw [z1, hP.2]) (fun x hx => o1 x (by rw [← hP.2]; exact hx))) hl
  refine (u_born (m_ty ci) hts hc0.1 hKn hkC e1 hc0.2.1).to (fun j hj => ?_)
  have hj2 : j < m_N ci := by rw [← hN]; exact hj
  rw [m_dflt hci hj2]
  unfold vp_V
  rw [List.getD_eq_getElem?_getD, m_fs_get hj2]
  simp only [Option.getD_some, m_fv, i0, r0, if_true]
  rfl
/-- a new array of numbers: type t, n places -/
theorem v_newW {t : Nat} {atype : ArrayType} {ty : FieldType} {n : Int32} {N : Nat} {I' : IM} {J' : JM} (C : Cx E X own cc nL ret nm rm) (hw : Cond.arrayClass ty ∈ TW) (hty : newarray.typeOf atype = ty) (ht : (e_tys E)[t]? = some (E.2.2.1 t, ty)) (hnr : va_RA (xs X) (E.2.2.1 t) ty → (xs X).vm.findClass ("[" ++ ty.toString) = some (E.2.2.1 t)) (hn : ¬ n < 0) (hN : n.toNatClampNeg = N) (hbytes : N * componentBytes ty ≤ 536870912) (hcells : cells + 1 ≤ rm.cells) (hslots : slots + N ≤ rm.slots) (hI : ∀ b, b < sh.length → I' b = I b) (hJ : ∀ b, b < sh.length → J' b = J b) (hc : vp_cell (E.2.2.1 t) (N, m_arr (e_b E) t (I' sh.length) (J' sh.length) (R sh.length)) = arrV (E.2.2.1 t) N (fun _ => defaultValue ty)) (hd : decode cc pc = .ok (.newarray atype, 2)) (k : V E X Z (cells + 1) (slots + N) (sh ++ [.inr (t, N)]) I' J' R (pc + 2) lv (.ref sh.length :: st)) : V E X Z cells slots sh I J R pc lv (.int n :: st) := by
  intro H locs ls hP hS hl
  obtain ⟨hx, hb, hml, hown, hts, hnw, hK, hbs, hlk, hrt, hnm, hR0⟩ := C
  subst hty
  refine va_newaK hx hb (hts _ hw) rfl hd rfl hn hN hbytes (by rw [hR0]; exact hcells) (by rw [hR0]; exact hslots) hP.2 fun H1 cA e1 z1 o1 hAr hNm => ?_
  have hcA : cA = E.2.2.1 t := Option.some.inj (hNm.symm.trans (hnr (hK.2 t _ ht).2))
  subst hcA
  refine k H1 _ ls (m_new hP hI hJ (fun _ _ => rfl) ?_ (by rw [z1, hP.2]) (fun x hx => o1 x (by rw [← hP.2]; exact hx))) (m_Snew hS (by rw [z1, hP.2]) (fun x hx => o1 x (by rw [← hP.2]; exact hx))) hl
  show H1[e_b E + sh.length]? = some (vp_cell (E.2.2.1 t) (N, m_arr (e_b E) t (I' sh.length) (J' sh.length) (R sh.length)))
  rw [hc]
  exact e1
theorem v_newI {n : Int32} (N : Nat) (C : Cx E X own cc nL ret nm rm) (hw : Cond.arrayClass .int ∈ TW) (hn : ¬ n < 0) (hN : n.toNatClampNeg = N) (hbytes : N * 4 ≤ 536870912) (hcells : cells + 1 ≤ rm.cells) (hslots : slots + N ≤ rm.slots) (hd : decode cc pc = .ok (.newarray .int, 2)) (k : V E X Z (cells + 1) (slots + N) (sh ++ [.inr (0, N)]) (i0 I sh.length) J R (pc + 2) lv (.ref sh.length :: st)) : V E X Z cells slots sh I J R pc lv (.int n :: st) :=
  v_newW (t := 0) C hw rfl rfl (fun h => h) hn hN hbytes hcells hslots i0_lt (fun _ _ => rfl) (by rw [i0_at]; rfl) hd k
theorem v_newB {n : Int32} (N : Nat) (C : Cx E X own cc nL ret nm rm) (hw : Cond.arrayClass .byte ∈ TW) (hn : ¬ n < 0) (hN : n.toNatClampNeg = N) (hbytes : N * 1 ≤ 536870912) (hcells : cells + 1 ≤ rm.cells) (hslots : slots + N ≤ rm.slots) (hd : decode cc pc = .ok (.newarray .byte, 2)) (k : V E X Z (cells + 1) (slots + N) (sh ++ [.inr (2, N)]) (i0 I sh.length) J R (pc + 2) lv (.ref sh.length :: st)) : V E X Z cells slots sh I J R pc lv (.int n :: st) :=
  v_newW (t := 2) C hw rfl rfl (fun h => h) hn hN hbytes hcells hslots i0_lt (fun _ _ => rfl) (by rw [i0_at]; rfl) hd k
theorem v_newZ {n : Int32} (N : Nat) (C : Cx E X own cc nL ret nm rm) (hw : Cond.arrayClass .boolean ∈ TW) (hn : ¬ n < 0) (hN : n.toNatClampNeg = N) (hbytes : N * 1 ≤ 536870912) (hcells : cells + 1 ≤ rm.cells) (hslots : slots + N ≤ rm.slots) (hd : decode cc pc = .ok (.newarray .boolean, 2)) (k : V E X Z (cells + 1) (slots + N) (sh ++ [.inr (3, N)]) (i0 I sh.length) J R (pc + 2) lv (.ref sh.length :: st)) : V E X Z cells slots sh I J R pc lv (.int n :: st) :=
  v_newW (t := 3) C hw rfl rfl (fun h => h) hn hN hbytes hcells hslots i0_lt (fun _ _ => rfl) (by rw [i0_at]; rfl) hd k
theorem v_newJ {n : Int32} (N : Nat) (C : Cx E X own cc nL ret nm rm) (hw : Cond.arrayClass .long ∈ TW) (hn : ¬ n < 0) (hN : n.toNatClampNeg = N) (hbytes : N * 8 ≤ 536870912) (hcells : cells + 1 ≤ rm.cells) (hslots : slots + N ≤ rm.slots) (hd : decode cc pc = .ok (.newarray .long, 2)) (k : V E X Z (cells + 1) (slots + N) (sh ++ [.inr (1, N)]) I (j0 J sh.length) R (pc + 2) lv (.ref sh.length :: st)) : V E X Z cells slots sh I J R pc lv (.int n :: st) :=
  v_newW (t := 1) C hw rfl rfl (fun h => h) hn hN hbytes hcells hslots (fun _ _ => rfl) j0_lt (by rw [j0_at]; rfl) hd k
theorem v_anew {t idx : Nat} {cn : String} {n : Int32} (N : Nat) (C : Cx E X own cc nL ret nm rm) (hT : TyR E t cn) (hcl : Cond.classLink own idx cn ∈ TW) (hov : Cond.arrayOver (.object cn) ∈ NW) (hn : ¬ n < 0) (hN : n.toNatClampNeg = N) (hbytes : N * 4 ≤ 536870912) (hcells : cells + 1 ≤ rm.cells) (hslots : slots + N ≤ rm.slots) (hd : decode cc pc = .ok (.anewarray idx, 3)) (k : V E X Z (cells + 1) (slots + N) (sh ++ [.inr (t, N)]) I J (r0 R sh.length) (pc + 3) lv (.ref sh.length :: st)) : V E X Z cells slots sh I J R pc lv (.int n :: st) := by
  intro H locs ls hP hS hl
  obtain ⟨hx, hb, hml, hown, hts, hnw, hK, hbs, hlk, hrt, hnm, hR0⟩ := C
  subst hN
  refine W.anew hx hb hown (hts _ hcl) (va_AO.use (hnw _ hov)) rfl hd rfl hn hbytes (by rw [hR0]; exact hcells) (by rw [hR0]; exact hslots) fun cA kA comp f1 f2 f3 f4 => ?_
  obtain ⟨kA', comp', g1, g2, g3, g4⟩ := (hK.2 t _ hT.1).2
  have hcA : cA = E.2.2.1 t := Option.some.inj (f1.symm.trans g4)
  subst hcA
  rw [show H.size = e_b E + sh.length from hP.2]
  generalize hH1 : H.push ({ cls := E.2.2.1 t, slots := Array.replicate n.toNatClampNeg .null, vm := .none } : Cell) = H1
  have z1 : H1.size = H.size + 1 := by rw [← hH1, Array.size_push]
  have e1 : H1[H.size]? = some (arrV (E.2.2.1 t) n.toNatClampNeg (fun _ => .null)) := by rw [← hH1, Array.getElem?_push_size, ← arrV_new]
  have o1 : ∀ q : Nat, q < H.size → H1[q]? = H[q]? := fun q hq => by rw [← hH1, Array.getElem?_push, if_neg (Nat.ne_of_lt hq)]
  refine k H1 _ ls (m_new hP (fun _ _ => rfl) (fun _ _ => rfl) r0_lt ?_ z1 o1) (m_Snew hS z1 o1) hl
  show H1[e_b E + sh.length]? = some (vp_cell (E.2.2.1 t) (n.toNatClampNeg, m_arr (e_b E) t (I sh.length) (J sh.length) (r0 R sh.length sh.length)))
  rw [m_arrR hT.2.1 hT.2.2, vp_cell_q, ← hP.2, e1]
  simp [r0, va_rf]
theorem v_ifnull {a : Nat} {off : Int} (C : Cx E X own cc nL ret nm rm) (hd : decode cc pc = .ok (.ifnull off, 3)) (k : V E X Z cells slots sh I J R (pc + 3) lv st) : V E X Z cells slots sh I J R pc lv (.ref a :: st) := fun H locs ls hP hS hl => lv_ifnull C.1 C.2.1 hd (k H locs ls hP hS hl)
theorem v_ifnullN {off : Int} (tgt : Nat) (C : Cx E X own cc nL ret nm rm) (hd : decode cc pc = .ok (.ifnull off, 3)) (ht : (pc : Int) + off = (tgt : Int)) (k : V E X Z cells slots sh I J R tgt lv st) : V E X Z cells slots sh I J R pc lv (.null :: st) := fun H locs ls hP hS hl => lv_ifnullN C.1 C.2.1 hd ht (k H locs ls hP hS hl)
theorem v_ifnonnull {a : Nat} {off : Int} (tgt : Nat) (C : Cx E X own cc nL ret nm rm) (hd : decode cc pc = .ok (.ifnonnull off, 3)) (ht : (pc : Int) + off = (tgt : Int)) (k : V E X Z cells slots sh I J R tgt lv st) : V E X Z cells slots sh I J R pc lv (.ref a :: st) := fun H locs ls hP hS hl => lv_ifnonnull C.1 C.2.1 hd ht (k H locs ls hP hS hl)
theorem v_ifnonnullN {off : Int} (C : Cx E X own cc nL ret nm rm) (hd : decode cc pc = .ok (.ifnonnull off, 3)) (k : V E X Z cells slots sh I J R (pc + 3) lv st) : V E X Z cells slots sh I J R pc lv (.null :: st) := fun H locs ls hP hS hl => lv_ifnonnullN C.1 C.2.1 hd (k H locs ls hP hS hl)
theorem v_lookup {dflt : Int} {ps : Array (Int × Int)} {len : Nat} {x : Int32} {off : Int} (tgt : Nat) (C : Cx E X own cc nL ret nm rm) (hd : decode cc pc = .ok (.lookupswitch dflt ps, len)) (hp : (ps.toList.zip (ps.toList.drop 1)).all (fun (a, next) => a.1 < next.1) = true) (ho : Op.lookupswitch.offset ps.toList dflt x.toInt = off) (ht : (pc : Int) + off = (tgt : Int)) (k : V E X Z cells slots sh I J R tgt lv st) : V E X Z cells slots sh I J R pc lv (.int x :: st) := fun H locs ls hP hS hl => lv_lookup C.1 C.2.1 hd hp ho ht (k H locs ls hP hS hl)
theorem v_tableOut {dflt lo hi : Int} {offs : Array Int} {len : Nat} {x : Int32} (tgt : Nat) (C : Cx E X own cc nL ret nm rm) (hd : decode cc pc = .ok (.tableswitch dflt lo hi offs, len)) (h : x.toInt < lo ∨ hi < x.toInt) (ht : (pc : Int) + dflt = (tgt : Int)) (k : V E X Z cells slots sh I J R tgt lv st) : V E X Z cells slots sh I J R pc lv (.int x :: st) := fun H locs ls hP hS hl => lv_tableOut C.1 C.2.1 hd h ht (k H locs ls hP hS hl)
theorem v_tableIn {dflt lo hi : Int} {offs : Array Int} {len : Nat} {x : Int32} {off : Int} (tgt : Nat) (C : Cx E X own cc nL ret nm rm) (hd : decode cc pc = .ok (.tableswitch dflt lo hi offs, len)) (h1 : ¬ x.toInt < lo) (h2 : ¬ hi < x.toInt) (ho : offs[(x.toInt - lo).toNat]? = some off) (ht : (pc : Int) + off = (tgt : Int)) (k : V E X Z cells slots sh I J R tgt lv st) : V E X Z cells slots sh I J R pc lv (.int x :: st) := fun H locs ls hP hS hl => lv_tableIn C.1 C.2.1 hd h1 h2 ho ht (k H locs ls hP hS hl)
theorem v_widen {c2 s2 : Nat} (h1 : cells ≤ c2) (h2 : slots ≤ s2) (k : V E X Z c2 s2 sh I J R pc lv st) : V E X Z cells slots sh I J R pc lv st := fun H locs ls hP hS hl => W.widen h1 h2 (k H locs ls hP hS hl)
/-! answers -/
theorem v_iret {Q : CQ} {x : Int32} (C : Cx E X own cc nL (some .int) nm rm) (hd : decode cc pc = .ok (.ireturn, 1)) (hq : Q (some (.int x)) sh I J R) : V E X (m_Z E X Q cells slots) cells slots sh I J R pc lv [.int x] := by
  intro H locs ls hP hS hl
  exact W.iret C.1 C.2.1 C.2.2.2.2.2.2.2.2.2.1 (fun t ht hW => ⟨⟨some (.int x), sh, I, J, R, rfl, hq, by rw [ht]; exact hP⟩, hS.F ht⟩) hS.2.2 hd C.2.2.2.2.2.2.2.2.1
theorem v_zret {Q : CQ} {x : Int32} (C : Cx E X own cc nL (some .boolean) nm rm) (hx : x = 0 ∨ x = 1) (hd : decode cc pc = .ok (.ireturn, 1)) (hq : Q (some (.int x)) sh I J R) : V E X (m_Z E X Q cells slots) cells slots sh I J R pc lv [.int x] := by
  intro H locs ls hP hS hl
  exact W.zret C.1 C.2.1 C.2.2.2.2.2.2.2.2.2.1 (by rcases hx with rfl | rfl <;> rfl) (fun t ht hW => ⟨⟨some (.int x), sh, I, J, R, rfl, hq, by rw [ht]; exact hP⟩, hS.F ht⟩) hS.2.2 hd C.2.2.2.2.2.2.2.2.1
theorem v_vret {Q : CQ} (C : Cx E X own cc nL none nm rm) (hd : decode cc pc = .ok (.return_, 1)) (hq : Q none sh I J R) : V E X (m_Z E X Q cells slots) cells slots sh I J R pc lv [] := by
  intro H locs ls hP hS hl
  exact W.vret C.1 C.2.1 C.2.2.2.2.2.2.2.2.2.1 (fun t ht hW => ⟨⟨none, sh, I, J, R, rfl, hq, by rw [ht]; exact hP⟩, hS.F ht⟩) hS.2.2 hd C.2.2.2.2.2.2.2.2.1
/-! calls -/
theorem v_after {H : Heap} {locs : List Loc} {ls : Array Slot} {mc ms : Nat} {st0 rest : List Value} {Q : CQ} {aa : Array Value} (hS : va_S (m_A E) (xs X).heap H locs) (hl : lv_has ls lv.length (lvA (e_b E) lv)) (hr : va_Run (xp X) (xl X) (xe X) (xR X) (xs X) (xm X) (xa X) (xb X) (xt X) (xc X) H locs cells slots mc ms (F0 (xm X) pc ls st0) (rest.map (m_v (e_b E))) (m_Qc E Q aa) (m_A E))
    (k : ∀ (v : Option Value) (sh' : List Sh) (I' : IM) (J' : JM) (R' : RM), Q v sh' I' J' R' → V E X Z (cells + mc) (slots + ms) sh' I' J' R' (pc + 3) lv (v.toList ++ rest)) : W (xp X) (xl X) (xe X) (xR X) (xs X) (xm X) (xa X) (xb X) (xt X) (xc X) H locs cells slots Z (F0 (xm X) pc ls st0) := by
  intro T hT X0
  obtain ⟨v0, st₀, t, T', L, h0, X', hL, e1, e2, ⟨⟨v, sh', I', J', R', hv, hq, hP'⟩, hz, hk⟩, hst⟩ := hr T hT X0
  cases hv
  rw [h0] at hz hk
  have hS' : va_S (m_A E) (xs X).heap T'.heap (locs ++ L) := ⟨Nat.le_trans hS.1 (by rw [e1]; exact hz), fun q h1 h2 => by rw [e1, hk q (Nat.lt_of_lt_of_le h1 hS.1) h2]; exact hS.2.1 q h1 h2, fun q hq => by
      rcases List.mem_append.mp hq with h | h
      · exact hS.2.2 q h
      · exact hL q h⟩
  obtain ⟨t2, a1, b1⟩ := k v sh' I' J' R' hq T'.heap (locs ++ L) ls (by rw [e1]; exact hP') hS' hl T' rfl X'
  refine ⟨t2, hst t2 ?_, b1⟩
  cases v <;> exact a1
theorem m_blind {as : List Value} : FrameBlind (m_Pc E as sh I J R) := fun a U g mk q => ⟨q.1, q.2.1, va_K.moved (u := U) (U := U.calling g mk a) (Vm.Alike.refl U.vm) q.2.2.1, nw_calling q.2.2.2⟩
theorem m_pre {H : Heap} {as : List Value} (C : Cx E X own cc nL ret nm rm) (hP : m_P E sh I J R H) : ∀ U : State, U.heap = H → (xs X).WarmedH U.vm → m_Pc E as sh I J R (as.map (m_v (e_b E))).toArray U := fun U hU hW => ⟨rfl, by rw [hU]; exact hP, va_K.moved hW.alike C.2.2.2.2.2.2.1, nw_moved hW C.2.2.2.2.2.1⟩
/-- what a method is: its code in the tables, its parameters -/
def MT (y : MethodName) (cc : ByteArray) (mL : Nat) (ret : Option FieldType) (n : Nat) : Prop := Cond.code y cc mL ret ∈ TW ∧ Cond.initialized y.cls ∈ TW ∧ (y.cls ≠ "java/lang/invoke/MethodHandle" ∧ y.cls ≠ "java/lang/invoke/VarHandle" ∧ (parseMethodDescriptor y.desc).map (fun d => d.parameters.length) = some n)
def Rm (rm : Room) (cells slots fr lo mL mc ms : Nat) : Prop := (fr + 1 ≤ rm.frames ∧ 8 + (mL + 11) + lo ≤ rm.locals) ∧ cells + mc ≤ rm.cells ∧ slots + ms ≤ rm.slots
theorem m_cat (b : Nat) (st : List Value) : ((st.map (m_v b)).map fun v => v.category) = st.map fun v => v.category := by
  rw [List.map_map]
  apply List.map_congr_left
  intro v _
  exact m_v_cat b v
theorem tw_g4 {y : MethodName} {bytes : ByteArray} {mL : Nat} {ret' : Option FieldType} {ws : List Cond} (hc : Cond.code y bytes mL ret' ∈ TW) (h : ∀ w ∈ ws, w ∈ TW) : GoodIn TW (ws ++ (Cond.code y bytes mL ret' :: TW)) := fun w hw => (List.mem_append.mp hw).elim (fun h1 => ⟨h w h1, good_of_word (List.mem_filter.mp (h w h1)).2⟩) (fun h1 => tw_good hc w h1)
/-- an ordinary method of an object, by its place in the pool -/
def LV (own : String) (idx : Nat) (y : MethodName) : Prop := Cond.methodLink own idx y ∈ TW ∧ Cond.instanceMethod y ∈ TW ∧ Cond.selects y.cls y y ∈ TW
def LkS (own : String) (idx : Nat) (y : MethodName) : Prop := Cond.methodLink own idx y ∈ TW ∧ Cond.static y ∈ TW
def LI (own : String) (idx : Nat) (y : MethodName) : Prop := Cond.methodLink own idx y ∈ TW ∧ Cond.instanceMethod y ∈ TW ∧ y.name = "<init>"
def LNS (own : String) (idx : Nat) (y : MethodName) (host : String) : Prop := Cond.methodLinkNest own idx y host ∈ NW ∧ Cond.static y ∈ TW
def LNI (own : String) (idx : Nat) (y : MethodName) (host : String) : Prop := Cond.methodLinkNest own idx y host ∈ NW ∧ Cond.instanceMethod y ∈ TW ∧ y.name = "<init>"
theorem v_room {ls : Array Slot} {st0 rest : List Value} (h : (rest.map fun v => v.category).sum ≤ 8) : 2 * (F0 (xm X) pc ls st0).monitorRoom + ((rest.map (m_v (e_b E))).map fun v => v.category).sum ≤ 8 := by
  rw [m_cat]
  exact lv_room h
theorem v_callV {idx ci a : Nat} {y : MethodName} {bytes : ByteArray} {mL : Nat} {ret' : Option FieldType} {fr lo mc ms n : Nat} {as rest : List Value} {Q : CQ} {q : vw_C} (C : Cx E X own cc nL ret nm rm) (hM : Ct (xl X) E y bytes mL ret' fr lo (.ref a :: as) sh I J R mc ms Q) (hT : MT y bytes mL ret' n) (hL : LV own idx y) (hq : vwCl[ci]? = some q) (hqy : q.1 = y.cls) (hsh : sh[a]? = some (.inl ci)) (hn : as.length = n) (hst : st = as.reverse ++ .ref a :: rest) (hlv : lv.length = nL) (hr : (rest.map fun v => v.category).sum ≤ 8) (hR : Rm rm cells slots fr lo mL mc ms) (hd : decode cc pc = .ok (.invokevirtual idx, 3))
    (k : ∀ (v : Option Value) (sh' : List Sh) (I' : IM) (J' : JM) (R' : RM), Q v sh' I' J' R' → V E X Z (cells + mc) (slots + ms) sh' I' J' R' (pc + 3) lv (v.toList ++ rest)) : V E X Z cells slots sh I J R pc lv st := by
  intro H locs ls hP hS hl
  have hg : GoodIn TW (wsV own idx y.cls y (Cond.code y bytes mL ret' :: TW)) := tw_g4 (ws := [.methodLink own idx y, .instanceMethod y, .selects y.cls y y, .initialized y.cls]) hT.1 (by
    intro w hw
    simp only [List.mem_cons, List.not_mem_nil, or_false] at hw
    rcases hw with rfl | rfl | rfl | rfl
    · exact hL.1
    · exact hL.2.1
    · exact hL.2.2
    · exact hT.2.1)
  have hrv := va_recv C.2.2.2.2.2.2.1 hP.1 hq (m_ws_get hsh)
  rw [hqy] at hrv
  refine v_after hS hl (va_runV (C := y.cls) (As := as.map (m_v (e_b E))) ⟨C.1, C.2.1, C.2.2.1, C.2.2.2.1, C.2.2.2.2.1⟩ hM (cwV n C.2.2.2.2.1 hg rfl rfl rfl ⟨rfl, hT.2.2⟩ (by rw [C.2.2.2.2.2.2.2.2.2.2.2]; exact hR.1)) ⟨m_blind, hrv, m_pre C hP⟩ rfl (by rw [List.length_map]; exact hn) (by show ls.size = nL; rw [hl.1]; exact hlv) (by rw [hst]; show (List.map _ _) = _; rw [List.map_append, List.map_reverse]; rfl) (v_room hr) hd (by rw [C.2.2.2.2.2.2.2.2.2.2.2]; exact hR.2)) k
theorem v_callS {idx : Nat} {y : MethodName} {bytes : ByteArray} {mL : Nat} {ret' : Option FieldType} {fr lo mc ms n : Nat} {as rest : List Value} {Q : CQ} (C : Cx E X own cc nL ret nm rm) (hM : Ct (xl X) E y bytes mL ret' fr lo as sh I J R mc ms Q) (hT : MT y bytes mL ret' n) (hL : LkS own idx y) (hn : as.length = n) (hst : st = as.reverse ++ rest) (hlv : lv.length = nL) (hr : (rest.map fun v => v.category).sum ≤ 8) (hR : Rm rm cells slots fr lo mL mc ms) (hd : decode cc pc = .ok (.invokestatic idx, 3))
    (k : ∀ (v : Option Value) (sh' : List Sh) (I' : IM) (J' : JM) (R' : RM), Q v sh' I' J' R' → V E X Z (cells + mc) (slots + ms) sh' I' J' R' (pc + 3) lv (v.toList ++ rest)) : V E X Z cells slots sh I J R pc lv st := by
  intro H locs ls hP hS hl
  have hg : GoodIn TW (va_wsS own idx y (Cond.code y bytes mL ret' :: TW)) := tw_g4 (ws := [.methodLink own idx y, .static y, .initialized y.cls]) hT.1 (by
    intro w hw
    simp only [List.mem_cons, List.not_mem_nil, or_false] at hw
    rcases hw with rfl | rfl | rfl
    · exact hL.1
    · exact hL.2
    · exact hT.2.1)
  refine v_after hS hl (va_runS (As := as.map (m_v (e_b E))) ⟨C.1, C.2.1, C.2.2.1, C.2.2.2.1, C.2.2.2.2.1⟩ hM (va_cwS n C.2.2.2.2.1 hg rfl rfl rfl hT.2.2 (by rw [C.2.2.2.2.2.2.2.2.2.2.2]; exact hR.1)) ⟨m_blind, m_pre C hP⟩ rfl (by rw [List.length_map]; exact hn) (by show ls.size = nL; rw [hl.1]; exact hlv) (by rw [hst]; show (List.map _ _) = _; rw [List.map_append, List.map_reverse]) (v_room hr) hd (by rw [C.2.2.2.2.2.2.2.2.2.2.2]; exact hR.2)) k
theorem v_callNS {idx : Nat} {y : MethodName} {host : String} {bytes : ByteArray} {mL : Nat} {ret' : Option FieldType} {fr lo mc ms n : Nat} {as rest : List Value} {Q : CQ} (C : Cx E X own cc nL ret nm rm) (hM : Ct (xl X) E y bytes mL ret' fr lo as sh I J R mc ms Q) (hT : MT y bytes mL ret' n) (hL : LNS own idx y host) (hn : as.length = n) (hst : st = as.reverse ++ rest) (hlv : lv.length = nL) (hr : (rest.map fun v => v.category).sum ≤ 8) (hR : Rm rm cells slots fr lo mL mc ms) (hd : decode cc pc = .ok (.invokestatic idx, 3))
    (k : ∀ (v : Option Value) (sh' : List Sh) (I' : IM) (J' : JM) (R' : RM), Q v sh' I' J' R' → V E X Z (cells + mc) (slots + ms) sh' I' J' R' (pc + 3) lv (v.toList ++ rest)) : V E X Z cells slots sh I J R pc lv st := by
  intro H locs ls hP hS hl
  refine v_after hS hl (va_runSN (As := as.map (m_v (e_b E))) ⟨C.1, C.2.1, C.2.2.1, C.2.2.2.1, C.2.2.2.2.1⟩ hM ⟨va_cnB n C.2.2.2.2.1 (tw_good hT.1) rfl rfl rfl (C.2.2.2.2.2.1 _ hL.1) (C.2.2.2.2.1 _ hT.2.1) hT.2.2 (by rw [C.2.2.2.2.2.2.2.2.2.2.2]; exact hR.1), C.2.2.2.2.1 _ hL.2, trivial⟩ ⟨m_blind, m_pre C hP⟩ rfl (by rw [List.length_map]; exact hn) (by show ls.size = nL; rw [hl.1]; exact hlv) (by rw [hst]; show (List.map _ _) = _; rw [List.map_append, List.map_reverse]) (v_room hr) hd (by rw [C.2.2.2.2.2.2.2.2.2.2.2]; exact hR.2)) k
theorem v_callI {idx a : Nat} {y : MethodName} {bytes : ByteArray} {mL : Nat} {fr lo mc ms n : Nat} {as rest : List Value} {Q : CQ} (C : Cx E X own cc nL ret nm rm) (hM : Ct (xl X) E y bytes mL none fr lo (.ref a :: as) sh I J R mc ms Q) (hT : MT y bytes mL none n) (hL : LI own idx y) (hn : as.length = n) (hst : st = as.reverse ++ .ref a :: rest) (hlv : lv.length = nL) (hr : (rest.map fun v => v.category).sum ≤ 8) (hR : Rm rm cells slots fr lo mL mc ms) (hd : decode cc pc = .ok (.invokespecial idx, 3))
    (k : ∀ (v : Option Value) (sh' : List Sh) (I' : IM) (J' : JM) (R' : RM), Q v sh' I' J' R' → V E X Z (cells + mc) (slots + ms) sh' I' J' R' (pc + 3) lv (v.toList ++ rest)) : V E X Z cells slots sh I J R pc lv st := by
  intro H locs ls hP hS hl
  refine v_after hS hl (va_runI (As := as.map (m_v (e_b E))) ⟨C.1, C.2.1, C.2.2.1, C.2.2.2.1, C.2.2.2.2.1⟩ hM (cwI n C.2.2.2.2.1 (tw_good hT.1) rfl rfl rfl (C.2.2.2.2.1 _ hT.2.1) (C.2.2.2.2.1 _ hL.1) (C.2.2.2.2.1 _ hL.2.1) hL.2.2 hT.2.2 (by rw [C.2.2.2.2.2.2.2.2.2.2.2]; exact hR.1)) ⟨m_blind, m_pre C hP⟩ rfl (by rw [List.length_map]; exact hn) (by show ls.size = nL; rw [hl.1]; exact hlv) (by rw [hst]; show (List.map _ _) = _; rw [List.map_append, List.map_reverse]; rfl) (v_room hr) hd (by rw [C.2.2.2.2.2.2.2.2.2.2.2]; exact hR.2)) k
theorem v_callNI {idx a : Nat} {y : MethodName} {host : String} {bytes : ByteArray} {mL : Nat} {fr lo mc ms n : Nat} {as rest : List Value} {Q : CQ} (C : Cx E X own cc nL ret nm rm) (hM : Ct (xl X) E y bytes mL none fr lo (.ref a :: as) sh I J R mc ms Q) (hT : MT y bytes mL none n) (hL : LNI own idx y host) (hn : as.length = n) (hst : st = as.reverse ++ .ref a :: rest) (hlv : lv.length = nL) (hr : (rest.map fun v => v.category).sum ≤ 8) (hR : Rm rm cells slots fr lo mL mc ms) (hd : decode cc pc = .ok (.invokespecial idx, 3))
    (k : ∀ (v : Option Value) (sh' : List Sh) (I' : IM) (J' : JM) (R' : RM), Q v sh' I' J' R' → V E X Z (cells + mc) (slots + ms) sh' I' J' R' (pc + 3) lv (v.toList ++ rest)) : V E X Z cells slots sh I J R pc lv st := by
  intro H locs ls hP hS hl
  refine v_after hS hl (va_runIN (As := as.map (m_v (e_b E))) ⟨C.1, C.2.1, C.2.2.1, C.2.2.2.1, C.2.2.2.2.1⟩ hM ⟨va_cnB n C.2.2.2.2.1 (tw_good hT.1) rfl rfl rfl (C.2.2.2.2.2.1 _ hL.1) (C.2.2.2.2.1 _ hT.2.1) hT.2.2 (by rw [C.2.2.2.2.2.2.2.2.2.2.2]; exact hR.1), hL.2.2, C.2.2.2.2.1 _ hL.2.1⟩ ⟨m_blind, m_pre C hP⟩ rfl (by rw [List.length_map]; exact hn) (by show ls.size = nL; rw [hl.1]; exact hlv) (by rw [hst]; show (List.map _ _) = _; rw [List.map_append, List.map_reverse]; rfl) (v_room hr) hd (by rw [C.2.2.2.2.2.2.2.2.2.2.2]; exact hR.2)) k
/-! the JDK's own: Object(), Math.max, Math.min -/
theorem v_objInit {idx a : Nat} {rest : List Value} (C : Cx E X own cc nL ret nm rm) (hw : Cond.methodLink own idx objectInit ∈ TW) (hw2 : Cond.instanceMethod objectInit ∈ TW) (hw3 : Cond.code objectInit ⟨#[0xb1]⟩ 1 none ∈ TW) (hlv : lv.length = nL) (hfr : 1 ≤ rm.frames) (hlo : (rest.map fun v => v.category).sum + 12 ≤ rm.locals) (hd : decode cc pc = .ok (.invokespecial idx, 3)) (k : V E X Z cells slots sh I J R (pc + 3) lv rest) : V E X Z cells slots sh I J R pc lv (.ref a :: rest) := by
  intro H locs ls hP hS hl
  have hR0 := C.2.2.2.2.2.2.2.2.2.2.2
  refine W.objInit C.1 C.2.1 C.2.2.2.1 (C.2.2.2.2.1 _ hw) (C.2.2.2.2.1 _ hw2) (C.2.2.2.2.1 _ hw3) rfl (by show ls.size = _; rw [hl.1, C.2.2.1]; exact hlv) rfl hd (by rw [hR0]; exact hfr) ?_ (k H locs ls hP hS hl)
  rw [hR0]
  show 2 * 0 + ((rest.map (m_v (e_b E))).map fun v => v.category).sum + 12 ≤ _
  rw [m_cat]
  omega
theorem v_mmax {idx : Nat} {x y : Int32} {rest : List Value} (C : Cx E X own cc nL ret nm rm) (hw : Cond.methodLink own idx Lib.Math.max.name ∈ TW) (hw2 : Cond.static Lib.Math.max.name ∈ TW) (hw3 : Cond.initialized "java/lang/Math" ∈ TW) (hw4 : Cond.code Lib.Math.max.name Lib.Math.max.code 2 (some .int) ∈ TW) (hlv : lv.length = nL) (hfr : 1 ≤ rm.frames) (hlo : (rest.map fun v => v.category).sum + 13 ≤ rm.locals) (hc : cells ≤ rm.cells) (hs : slots ≤ rm.slots) (hd : decode cc pc = .ok (.invokestatic idx, 3)) (k : V E X Z cells slots sh I J R (pc + 3) lv (.int (if x < y then y else x) :: rest)) : V E X Z cells slots sh I J R pc lv (.int y :: .int x :: rest) := by
  intro H locs ls hP hS hl
  have hR0 := C.2.2.2.2.2.2.2.2.2.2.2
  refine va_mmax (rest := rest.map (m_v (e_b E))) C.1 C.2.1 (by rw [hl.1, C.2.2.1, hlv]) C.2.2.2.1 (C.2.2.2.2.1 _ hw) (C.2.2.2.2.1 _ hw2) (C.2.2.2.2.1 _ hw3) (C.2.2.2.2.1 _ hw4) (by rw [hR0]; exact hfr) ?_ (by rw [hR0]; exact hc) (by rw [hR0]; exact hs) hd (k H locs ls hP hS hl)
  rw [hR0, m_cat]
  exact hlo
theorem v_mmin {idx : Nat} {x y : Int32} {rest : List Value} (C : Cx E X own cc nL ret nm rm) (hw : Cond.methodLink own idx Lib.Math.min.name ∈ TW) (hw2 : Cond.static Lib.Math.min.name ∈ TW) (hw3 : Cond.initialized "java/lang/Math" ∈ TW) (hw4 : Cond.code Lib.Math.min.name Lib.Math.min.code 2 (some .int) ∈ TW) (hlv : lv.length = nL) (hfr : 1 ≤ rm.frames) (hlo : (rest.map fun v => v.category).sum + 13 ≤ rm.locals) (hc : cells ≤ rm.cells) (hs : slots ≤ rm.slots) (hd : decode cc pc = .ok (.invokestatic idx, 3)) (k : V E X Z cells slots sh I J R (pc + 3) lv (.int (if y < x then y else x) :: rest)) : V E X Z cells slots sh I J R pc lv (.int y :: .int x :: rest) := by
  intro H locs ls hP hS hl
  have hR0 := C.2.2.2.2.2.2.2.2.2.2.2
  refine va_mmin (rest := rest.map (m_v (e_b E))) C.1 C.2.1 (by rw [hl.1, C.2.2.1, hlv]) C.2.2.2.1 (C.2.2.2.2.1 _ hw) (C.2.2.2.2.1 _ hw2) (C.2.2.2.2.1 _ hw3) (C.2.2.2.2.1 _ hw4) (by rw [hR0]; exact hfr) ?_ (by rw [hR0]; exact hc) (by rw [hR0]; exact hs) hd (k H locs ls hP hS hl)
  rw [hR0, m_cat]
  exact hlo
end VN1
