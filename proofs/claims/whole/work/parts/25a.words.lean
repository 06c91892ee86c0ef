/-! ===== constructors: words ===== -/
theorem Blank.grow {sh sh2 : List Sh} {I : IM} {J : JM} {R : RM} (h : Blank sh I J R) (hl : sh.length ≤ sh2.length) : Blank sh2 I J R := fun a ha => h a (Nat.le_trans hl ha)
theorem Blank.ru {sh : List Sh} {I : IM} {J : JM} {R : RM} (h : Blank sh I J R) {a k : Nat} {x : Option Nat} (ha : a < sh.length) : Blank sh I J (ru R a k x) :=
  h.of (fun _ _ => rfl) (fun _ _ => rfl) (fun b hb => ru_ne b (by omega))
theorem Blank.iu {sh : List Sh} {I : IM} {J : JM} {R : RM} (h : Blank sh I J R) {a k : Nat} {x : Int32} (ha : a < sh.length) : Blank sh (iu I a k x) J R :=
  h.of (fun b hb => iu_ne b (by omega)) (fun _ _ => rfl) (fun _ _ => rfl)
theorem Blank.fill {sh : List Sh} {I : IM} {J : JM} {R : RM} (h : Blank sh I J R) {a n : Nat} {x : Int32} (ha : a < sh.length) : Blank sh (fillF I a n x) J R :=
  h.of (fun b hb => fillF_o (by omega)) (fun _ _ => rfl) (fun _ _ => rfl)
section VNA
variable {E : En} {X : Ctx} {own : String} {cc : ByteArray} {nL : Nat} {ret : Option FieldType} {nm : String} {rm : Room} {Z : State → Prop} {cells slots : Nat} {sh : List Sh} {I : IM} {J : JM} {R : RM} {pc : Nat} {lv : List (Option Value)} {st : List Value}
theorem v_newA {idx ci : Nat} {q : vw_C} (a : Nat) (sh2 : List Sh) (ha : sh.length = a) (h2 : sh ++ [.inl ci] = sh2) (hB : Blank sh I J R) (C : Cx E X own cc nL ret nm rm) (hq : vwCl[ci]? = some q) (hcl : Cond.classLink own idx q.1 ∈ TW) (hin : Cond.instantiable q.1 (m_N ci) ∈ TW) (hini : Cond.initialized q.1 ∈ TW) (hcells : cells + 1 ≤ rm.cells) (hslots : slots + m_N ci ≤ rm.slots) (hd : decode cc pc = .ok (.new idx, 3)) (k : V E X Z (cells + 1) (slots + m_N ci) sh2 I J R (pc + 3) lv (.ref a :: st)) : V E X Z cells slots sh I J R pc lv st := by
  refine v_new (ci := ci) C hq hcl hin hini hcells hslots hd ?_
  rw [hB.i, hB.r, ha, h2]
  exact k
theorem v_newIA {n : Int32} (N : Nat) (a : Nat) (sh2 : List Sh) (ha : sh.length = a) (h2 : sh ++ [.inr (0, N)] = sh2) (hB : Blank sh I J R) (C : Cx E X own cc nL ret nm rm) (hw : Cond.arrayClass .int ∈ TW) (hn : ¬ n < 0) (hN : n.toNatClampNeg = N) (hbytes : N * 4 ≤ 536870912) (hcells : cells + 1 ≤ rm.cells) (hslots : slots + N ≤ rm.slots) (hd : decode cc pc = .ok (.newarray .int, 2)) (k : V E X Z (cells + 1) (slots + N) sh2 I J R (pc + 2) lv (.ref a :: st)) : V E X Z cells slots sh I J R pc lv (.int n :: st) := by
  refine v_newI N C hw hn hN hbytes hcells hslots hd ?_
  rw [hB.i, ha, h2]
  exact k
theorem v_newBA {n : Int32} (N : Nat) (a : Nat) (sh2 : List Sh) (ha : sh.length = a) (h2 : sh ++ [.inr (2, N)] = sh2) (hB : Blank sh I J R) (C : Cx E X own cc nL ret nm rm) (hw : Cond.arrayClass .byte ∈ TW) (hn : ¬ n < 0) (hN : n.toNatClampNeg = N) (hbytes : N * 1 ≤ 536870912) (hcells : cells + 1 ≤ rm.cells) (hslots : slots + N ≤ rm.slots) (hd : decode cc pc = .ok (.newarray .byte, 2)) (k : V E X Z (cells + 1) (slots + N) sh2 I J R (pc + 2) lv (.ref a :: st)) : V E X Z cells slots sh I J R pc lv (.int n :: st) := by
  refine v_newB N C hw hn hN hbytes hcells hslots hd ?_
  rw [hB.i, ha, h2]
  exact k
theorem v_newZA {n : Int32} (N : Nat) (a : Nat) (sh2 : List Sh) (ha : sh.length = a) (h2 : sh ++ [.inr (3, N)] = sh2) (hB : Blank sh I J R) (C : Cx E X own cc nL ret nm rm) (hw : Cond.arrayClass .boolean ∈ TW) (hn : ¬ n < 0) (hN : n.toNatClampNeg = N) (hbytes : N * 1 ≤ 536870912) (hcells : cells + 1 ≤ rm.cells) (hslots : slots + N ≤ rm.slots) (hd : decode cc pc = .ok (.newarray .boolean, 2)) (k : V E X Z (cells + 1) (slots + N) sh2 I J R (pc + 2) lv (.ref a :: st)) : V E X Z cells slots sh I J R pc lv (.int n :: st) := by
  refine v_newZ N C hw hn hN hbytes hcells hslots hd ?_
  rw [hB.i, ha, h2]
  exact k
theorem v_newJA {n : Int32} (N : Nat) (a : Nat) (sh2 : List Sh) (ha : sh.length = a) (h2 : sh ++ [.inr (1, N)] = sh2) (hB : Blank sh I J R) (C : Cx E X own cc nL ret nm rm) (hw : Cond.arrayClass .long ∈ TW) (hn : ¬ n < 0) (hN : n.toNatClampNeg = N) (hbytes : N * 8 ≤ 536870912) (hcells : cells + 1 ≤ rm.cells) (hslots : slots + N ≤ rm.slots) (hd : decode cc pc = .ok (.newarray .long, 2)) (k : V E X Z (cells + 1) (slots + N) sh2 I J R (pc + 2) lv (.ref a :: st)) : V E X Z cells slots sh I J R pc lv (.int n :: st) := by
  refine v_newJ N C hw hn hN hbytes hcells hslots hd ?_
  rw [hB.j, ha, h2]
  exact k
theorem v_anewA {t idx : Nat} {cn : String} {n : Int32} (N : Nat) (a : Nat) (sh2 : List Sh) (ha : sh.length = a) (h2 : sh ++ [.inr (t, N)] = sh2) (hB : Blank sh I J R) (C : Cx E X own cc nL ret nm rm) (hT : TyR E t cn) (hcl : Cond.classLink own idx cn ∈ TW) (hov : Cond.arrayOver (.object cn) ∈ NW) (hn : ¬ n < 0) (hN : n.toNatClampNeg = N) (hbytes : N * 4 ≤ 536870912) (hcells : cells + 1 ≤ rm.cells) (hslots : slots + N ≤ rm.slots) (hd : decode cc pc = .ok (.anewarray idx, 3)) (k : V E X Z (cells + 1) (slots + N) sh2 I J R (pc + 3) lv (.ref a :: st)) : V E X Z cells slots sh I J R pc lv (.int n :: st) := by
  refine v_anew (t := t) N C hT hcl hov hn hN hbytes hcells hslots hd ?_
  rw [hB.r, ha, h2]
  exact k
end VNA
