/-! ===== the law: its words, rows of the script ===== -/
def R_law : String := "GlassHutLaw"
def lw_P (b : Addr) (xs : List Int32) (args : Array Value) (s : State) : Prop := args = #[.ref b] ∧ s.IntsAt b xs ∧ xs.length ≤ 4096 ∧ (Jvm.Cond.and given_1 narrow_1).before args s = true
def lw_Q (_ : Array Value) (s : State) (o : Outcome) (t : State) : Prop := o = .returned (some (.int 1)) ∧ Framed s o t [] 600000 7302250
def lw_Z (below : List Frame) (a : Array Value) (s : State) : State → Prop := fun t => ∃ o, t.status = .running ∧ Ended t below o ∧ lw_Q a s o t
/-- the law's own end, with 1 on the stack, nothing written that was there before, its room as the claim has it -/
theorem lw_ret {p : Program} {l : Launch} {e : Env} {s : State} {m : MethodId} {below : List Frame} {meth : Method} {c : Code} {b : Nat} (hx : p.tables.exec = Jvm.exec) (hb : c.code = code) (hr : meth.sig.returnType = ret) (hlocks : meth.locks = false) {pc : Nat} {H : Heap} {ls : Array Slot} (hdg : decode code pc = .ok (.ireturn, 1)) : W p l e room_1 s m #[Value.ref b] below meth c H [] 600000 7302250 (lw_Z below #[Value.ref b] s) (F0 m pc ls [.int 1]) := by
  intro T hT X
  obtain ⟨fs, hret, hrun, hended, hW, hframe⟩ := X.leave (v := some (.int 1)) (hlocks := hlocks) (fun h => by rw [hr] at h; cases h)
  have hmeth' : T.vm.method? m = some meth := X.method'
  refine ⟨T.setFrames fs, ?_, .returned (some (.int 1)), hrun, hended, rfl, ⟨_, rfl⟩, hW, hframe⟩
  jvm_step X.here [X.here.top, hx, hb, hdg, hmeth', hr, ret, narrow_b1]
  (try refine ⟨rfl, ?_⟩); (try refine ⟨rfl, ?_⟩)
  first | (intro acts; rw [hret _ acts rfl rfl rfl]) | rw [hret _ _ rfl rfl rfl]
  exact Steps.refl _
/-- what holds at the law's entry: the machine, the code, the tables' words (any of lw_tbl by 'hts w (by decide +kernel)'), the script of L ints xs at the cell b, what the Statement gives of the start (any of its parts by flat_of_before) -/
def lw_At (p : Program) (s : State) (m : MethodId) (meth : Method) (c : Code) (b L : Nat) (xs : Nat → Int32) : Prop :=
  p.tables.exec = Jvm.exec ∧ c.code = code ∧ meth.sig.returnType = ret ∧ c.maxLocals = 4 ∧ s.vm.findClass R_law = some m.cls ∧ (∀ w ∈ lw_tbl, w.before #[Value.ref b] s = true) ∧ va_X b L xs s s.heap ∧ b < s.heap.size ∧ meth.locks = false ∧ (Jvm.Cond.and given_1 narrow_1).before #[Value.ref b] s = true
section VS
variable {E : En} {X : Ctx} {own : String} {cc : ByteArray} {nL : Nat} {ret' : Option FieldType} {nm : String} {rm : Room} {Z : State → Prop} {cells slots : Nat} {sh sh2 : List Sh} {I I2 : IM} {J J2 : JM} {R R2 : RM} {pc : Nat} {lv : List (Option Value)} {st : List Value}
theorem v_aloadS {n : Fin 4} {b : Nat} (C : Cx E X own cc nL ret' nm rm) (hd : decode cc pc = .ok (.aload_n n, 1)) (hv : lv[(n : Nat)]? = some (some (.retAddr b))) (k : V E X Z cells slots sh I J R (pc + 1) lv (.retAddr b :: st)) : V E X Z cells slots sh I J R pc lv st := fun H locs ls hP hS hl => lv_aload_n C.1 C.2.1 hd rfl (lvA_at hl hv) (k H locs ls hP hS hl)
theorem v_sld {b L : Nat} {sc : Nat → Int32} {i : Int32} (j : Nat) (C : Cx E X own cc nL ret' nm rm) (hX : va_X b L sc (xs X) (xs X).heap) (hbl : b < (xs X).heap.size) (hbE : b < e_b E) (hj : At i L j) (hd : decode cc pc = .ok (.iaload, 1)) (k : V E X Z cells slots sh I J R (pc + 1) lv (.int (sc j) :: st)) : V E X Z cells slots sh I J R pc lv (.int i :: .retAddr b :: st) := by
  intro H locs ls hP hS hl
  refine va_sld C.1 C.2.1 hX hbl (Nat.not_le.mpr hbE) hS hj.2 hd ?_
  rw [hj.1]
  exact k H locs ls hP hS hl
theorem v_slen {b L : Nat} {sc : Nat → Int32} (C : Cx E X own cc nL ret' nm rm) (hX : va_X b L sc (xs X) (xs X).heap) (hbl : b < (xs X).heap.size) (hbE : b < e_b E) (hd : decode cc pc = .ok (.arraylength, 1)) (k : V E X Z cells slots sh I J R (pc + 1) lv (.int (nI L) :: st)) : V E X Z cells slots sh I J R pc lv (.retAddr b :: st) := by
  intro H locs ls hP hS hl
  exact va_slen C.1 C.2.1 hX hbl (Nat.not_le.mpr hbE) hS hd (k H locs ls hP hS hl)
theorem rm_law {fr lo mL mc ms : Nat} (h : (Nat.ble (fr + 1) 7 && Nat.ble (8 + (mL + 11) + lo) 232) = true) (hc : cells + mc ≤ 600000) (hs : slots + ms ≤ 7302250) : Rm room_1 cells slots fr lo mL mc ms := by
  rw [Bool.and_eq_true] at h
  exact ⟨⟨Nat.le_of_ble_eq_true h.1, Nat.le_of_ble_eq_true h.2⟩, hc, hs⟩
theorem v_callLi {idx ci a : Nat} {y : MethodName} {bytes : ByteArray} {mL : Nat} {ret2 : Option FieldType} {fr lo mc ms n : Nat} {as rest : List Value} {q : vw_C} {r : Int32} (C : Cx E X own cc nL ret' nm rm) (hM : Ct (xl X) E y bytes mL ret2 fr lo (.ref a :: as) sh I J R mc ms (m_ret (some (.int r)) sh2 I2 J2 R2)) (hT : MT y bytes mL ret2 n) (hL : LV own idx y) (hq : vwCl[ci]? = some q) (hqy : q.1 = y.cls) (hsh : sh[a]? = some (.inl ci)) (hn : as.length = n) (hst : st = as.reverse ++ .ref a :: rest) (hlv : lv.length = nL) (hr : Nat.ble (rest.map fun v => v.category).sum 8 = true) (hR : Rm rm cells slots fr lo mL mc ms) (hd : decode cc pc = .ok (.invokevirtual idx, 3))
    (k : V E X Z (cells + mc) (slots + ms) sh2 I2 J2 R2 (pc + 3) lv (.int r :: rest)) : V E X Z cells slots sh I J R pc lv st :=
  v_callV C hM hT hL hq hqy hsh hn hst hlv (Nat.le_of_ble_eq_true hr) hR hd (fun v sh' I' J' R' h => by obtain ⟨rfl, rfl, rfl, rfl, rfl⟩ := h; exact k)
end VS
theorem lw_end {E : En} {X : Ctx} {nm : String} {cells slots : Nat} {sh : List Sh} {I : IM} {J : JM} {R : RM} {pc b : Nat} {lv : List (Option Value)} (C : Cx E X RL code 4 ret nm room_1) (hXa : xa X = #[Value.ref b]) (hE : e_b E = (xs X).heap.size) (hc : cells ≤ 600000) (hs : slots ≤ 7302250) (hd : decode code pc = .ok (.ireturn, 1)) : V E X (lw_Z (xb X) #[Value.ref b] (xs X)) cells slots sh I J R pc lv [.int 1] := by
  intro H locs ls hP hS hl
  obtain ⟨hx, hb, hml, hown, hts, hnw, hK, hbs, hlk, hrt, hnm, hR0⟩ := C
  rw [hXa, hR0]
  refine va_forget (fun q hq => ?_) ?_
  · have := hS.2.2 q hq
    unfold m_A at this
    rw [hE] at this
    exact this
  refine W.widen hc hs ?_
  exact lw_ret hx hb hrt hlk hd
theorem Cx.law {p : Program} {l : Launch} {e : Env} {s : State} {m : MethodId} {below : List Frame} {meth : Method} {c : Code} {b L : Nat} {sc : Nat → Int32} (C0 : lw_At p s m meth c b L sc) : ∃ E : En, e_b E = s.heap.size ∧ Cx E (p, l, e, room_1, s, m, #[Value.ref b], below, meth, c) RL code 4 ret meth.name room_1 := by
  obtain ⟨hx, hb, hr, hml, hown, hts, hX, hbl, hlocks, hgv⟩ := C0
  have hTW : ∀ w ∈ TW, w.before #[Value.ref b] s = true := fun w hw => hts w (List.mem_filter.mp hw).1
  have hNW : ∀ w ∈ NW, va_Nw w s := by
    intro w hw
    have h1 := hts w (List.mem_filter.mp hw).1
    have h2 := (List.mem_filter.mp hw).2
    cases w with
    | methodLinkNest a i x h => exact va_Nw.of rfl h1
    | arrayOver t =>
      cases t with
      | object C => exact h1
      | _ => simp [isNest] at h2
    | _ => simp [isNest] at h2
  have hkn : ∀ (ci : Nat) (q : vw_C), vwCl[ci]? = some q → (Cond.instantiable q.1 (m_N ci)).before #[Value.ref b] s = true → ∃ (cC : ClassId) (iS : Nat → Nat), u_Kn s q.1 q.2.1 q.2.2 cC iS := fun ci q hq hi => u_known (n := m_N ci) hTW (m_cls hq).1 hi
  have hin : ∀ (ci : Nat) (q : vw_C), vwCl[ci]? = some q → (Cond.instantiable q.1 (m_N ci)).before #[Value.ref b] s = true := by
    intro ci q hq
    match ci, hq with
    | 0, hq => cases hq; exact hTW _ ins_RX0
    | 1, hq => cases hq; exact hTW _ ins_RX1
    | 2, hq => cases hq; exact hTW _ ins_RX2
    | 3, hq => cases hq; exact hTW _ ins_RX3
    | 4, hq => cases hq; exact hTW _ ins_RX4
    | 5, hq => cases hq; exact hTW _ ins_RX5
    | 6, hq => cases hq; exact hTW _ ins_RX6
    | 7, hq => cases hq; exact hTW _ ins_RX7
    | 8, hq => cases hq; exact hTW _ ins_RX8
    | 9, hq => cases hq; exact hTW _ ins_RX9
    | 10, hq => cases hq; exact hTW _ ins_RX10
    | 11, hq => cases hq; exact hTW _ ins_RX11
    | n + 12, hq => simp [vwCl] at hq
  obtain ⟨dC, dI, hKc⟩ : ∃ (dC : Nat → ClassId) (dI : Nat → Nat → Nat), ∀ (k : Nat) (q : vw_C), vwCl[k]? = some q → u_Kn s q.1 q.2.1 q.2.2 (dC k) (dI k) := by
    have h0 : ∀ k : Nat, ∃ (z : ClassId × (Nat → Nat)), ∀ q : vw_C, vwCl[k]? = some q → u_Kn s q.1 q.2.1 q.2.2 z.1 z.2 := by
      intro k
      cases hk : vwCl[k]? with
      | none => exact ⟨((default : ClassId), fun _ => 0), fun q h => by cases h⟩
      | some q =>
        obtain ⟨cC, iS, h⟩ := hkn k q hk (hin k q hk)
        exact ⟨(cC, iS), fun q' h' => by cases h'; exact h⟩
    exact ⟨fun k => (Classical.choose (h0 k)).1, fun k => (Classical.choose (h0 k)).2, fun k q hq => Classical.choose_spec (h0 k) q hq⟩
  have prim : ∀ ty : FieldType, Cond.arrayClass ty ∈ TW → (∀ cA : ClassId, s.vm.findClass ("[" ++ ty.toString) = some cA → va_RA s cA ty) → ∃ cA : ClassId, ArrOfT s cA ty ∧ va_RA s cA ty := by
    intro ty hw hra
    obtain ⟨cA, kA, comp, hfind, hk, hkind⟩ := Cond.arrayClass_spec (hTW _ hw)
    exact ⟨cA, fun N z => ⟨fun k h => (by cases h), kA, hk, comp, hkind⟩, hra cA hfind⟩
  have refs : ∀ cn : String, Cond.arrayOver (.object cn) ∈ NW → ∃ cA : ClassId, ArrOfT s cA (.object cn) ∧ va_RA s cA (.object cn) := by
    intro cn hw
    have h := hNW _ hw
    obtain ⟨comp, cA, k, h1, h2, h3, h4, h5⟩ := Cond.arrayOver_spec h
    exact ⟨cA, fun N z => ⟨fun k h => (by cases h), k, h3, comp, h4⟩, k, comp, h3, h4, h1, h5⟩
  obtain ⟨a0, p0⟩ := prim .int ac_int (fun cA h => h)
  obtain ⟨a1, p1⟩ := prim .long ac_long (fun cA h => h)
  obtain ⟨a2, p2⟩ := prim .byte ac_byte (fun cA h => h)
  obtain ⟨a3, p3⟩ := prim .boolean ac_boolean (fun cA h => h)
  obtain ⟨a4, p4⟩ := refs RX7 ao_RX7
  obtain ⟨a5, p5⟩ := refs RX4 ao_RX4
  obtain ⟨a6, p6⟩ := refs RX0 ao_RX0
  obtain ⟨a7, p7⟩ := refs RX6 ao_RX6
  refine ⟨(dC, dI, fun k => match k with | 0 => a0 | 1 => a1 | 2 => a2 | 3 => a3 | 4 => a4 | 5 => a5 | 6 => a6 | _ => a7, s.heap.size), rfl, hx, hb, hml, hown, hTW, hNW, ⟨hKc, ?_⟩, Nat.le_refl _, hlocks, hr, rfl, rfl⟩
  intro k q hq
  match k, hq with
  | 0, hq => cases hq; exact p0
  | 1, hq => cases hq; exact p1
  | 2, hq => cases hq; exact p2
  | 3, hq => cases hq; exact p3
  | 4, hq => cases hq; exact p4
  | 5, hq => cases hq; exact p5
  | 6, hq => cases hq; exact p6
  | 7, hq => cases hq; exact p7
  | n + 8, hq => simp [e_tys] at hq
