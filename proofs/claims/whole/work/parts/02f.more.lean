/-! ===== calls of methods with a fixed answer; small rows ===== -/
def rmB (rm : Room) (cells slots fr lo mL mc ms : Nat) : Bool := (Nat.ble (fr + 1) rm.frames && Nat.ble (8 + (mL + 11) + lo) rm.locals) && (Nat.ble (cells + mc) rm.cells && Nat.ble (slots + ms) rm.slots)
theorem rmB_ok {rm : Room} {cells slots fr lo mL mc ms : Nat} (h : rmB rm cells slots fr lo mL mc ms = true) : Rm rm cells slots fr lo mL mc ms := by
  simp only [rmB, Bool.and_eq_true, Nat.ble_eq] at h
  exact h
theorem at_c {i : Int32} {n j : Nat} (h : (decide (¬ i < 0) && (decide (i.toNatClampNeg = j) && decide (j < n))) = true) : At i n j := by
  simp only [Bool.and_eq_true, decide_eq_true_eq] at h
  refine ⟨h.2.1, ?_⟩
  unfold vp_in
  intro hc
  rcases hc with hc | hc
  · exact h.1 hc
  · omega
theorem at_b {x hi : Int32} {n : Nat} (h0 : 0 ≤ x) (h1 : x ≤ hi) (hn : hi.toInt < n) : At x n x.toNatClampNeg := by
  refine ⟨rfl, ?_⟩
  rw [vp_in_iff]
  rw [Int32.le_iff_toInt_le] at h0 h1
  have e0 : (0 : Int32).toInt = 0 := by decide
  rw [e0] at h0
  omega
/-- within, in: is x between lo and hi -/
def wI (x lo hi : Int32) : Int32 := if x < lo then 0 else if hi < x then 0 else 1
theorem wI_0 {x lo hi : Int32} (h : wI x lo hi = 0) : ¬ (lo ≤ x ∧ x ≤ hi) := by
  rintro ⟨h1, h2⟩
  unfold wI at h
  rw [if_neg (Int32.not_lt.mpr h1), if_neg (Int32.not_lt.mpr h2)] at h
  exact absurd h (by decide)
theorem wI_1 {x lo hi : Int32} (h : ¬ wI x lo hi = 0) : lo ≤ x ∧ x ≤ hi := by
  unfold wI at h
  by_cases h1 : x < lo
  · rw [if_pos h1] at h; exact absurd rfl h
  · by_cases h2 : hi < x
    · rw [if_neg h1, if_pos h2] at h; exact absurd rfl h
    · exact ⟨Int32.not_lt.mp h1, Int32.not_lt.mp h2⟩
theorem wI_at {x hi : Int32} {n : Nat} (h : ¬ wI x 0 hi = 0) (hn : hi.toInt < n) : At x n x.toNatClampNeg := at_b (wI_1 h).1 (wI_1 h).2 hn
section VC2
variable {E : En} {X : Ctx} {own : String} {cc : ByteArray} {nL : Nat} {ret : Option FieldType} {nm : String} {rm : Room} {Z : State → Prop} {cells slots : Nat} {sh sh2 : List Sh} {I I2 : IM} {J J2 : JM} {R R2 : RM} {pc : Nat} {lv : List (Option Value)} {st : List Value}
theorem v_callVi {idx ci a : Nat} {y : MethodName} {bytes : ByteArray} {mL : Nat} {ret' : Option FieldType} {fr lo mc ms n : Nat} {as rest : List Value} {q : vw_C} {r : Int32} (C : Cx E X own cc nL ret nm rm) (hM : Ct (xl X) E y bytes mL ret' fr lo (.ref a :: as) sh I J R mc ms (m_ret (some (.int r)) sh2 I2 J2 R2)) (hT : MT y bytes mL ret' n) (hL : LV own idx y) (hq : vwCl[ci]? = some q) (hqy : q.1 = y.cls) (hsh : sh[a]? = some (.inl ci)) (hn : as.length = n) (hst : st = as.reverse ++ .ref a :: rest) (hlv : lv.length = nL) (hr : Nat.ble (rest.map fun v => v.category).sum 8 = true) (hR : rmB rm cells slots fr lo mL mc ms = true) (hd : decode cc pc = .ok (.invokevirtual idx, 3))
    (k : V E X Z (cells + mc) (slots + ms) sh2 I2 J2 R2 (pc + 3) lv (.int r :: rest)) : V E X Z cells slots sh I J R pc lv st :=
  v_callV C hM hT hL hq hqy hsh hn hst hlv (Nat.le_of_ble_eq_true hr) (rmB_ok hR) hd (fun v sh' I' J' R' h => by obtain ⟨rfl, rfl, rfl, rfl, rfl⟩ := h; exact k)
theorem v_callVv {idx ci a : Nat} {y : MethodName} {bytes : ByteArray} {mL : Nat} {ret' : Option FieldType} {fr lo mc ms n : Nat} {as rest : List Value} {q : vw_C} (C : Cx E X own cc nL ret nm rm) (hM : Ct (xl X) E y bytes mL ret' fr lo (.ref a :: as) sh I J R mc ms (m_ret none sh2 I2 J2 R2)) (hT : MT y bytes mL ret' n) (hL : LV own idx y) (hq : vwCl[ci]? = some q) (hqy : q.1 = y.cls) (hsh : sh[a]? = some (.inl ci)) (hn : as.length = n) (hst : st = as.reverse ++ .ref a :: rest) (hlv : lv.length = nL) (hr : Nat.ble (rest.map fun v => v.category).sum 8 = true) (hR : rmB rm cells slots fr lo mL mc ms = true) (hd : decode cc pc = .ok (.invokevirtual idx, 3))
    (k : V E X Z (cells + mc) (slots + ms) sh2 I2 J2 R2 (pc + 3) lv rest) : V E X Z cells slots sh I J R pc lv st :=
  v_callV C hM hT hL hq hqy hsh hn hst hlv (Nat.le_of_ble_eq_true hr) (rmB_ok hR) hd (fun v sh' I' J' R' h => by obtain ⟨rfl, rfl, rfl, rfl, rfl⟩ := h; exact k)
theorem v_callSi {idx : Nat} {y : MethodName} {bytes : ByteArray} {mL : Nat} {ret' : Option FieldType} {fr lo mc ms n : Nat} {as rest : List Value} {r : Int32} (C : Cx E X own cc nL ret nm rm) (hM : Ct (xl X) E y bytes mL ret' fr lo as sh I J R mc ms (m_ret (some (.int r)) sh2 I2 J2 R2)) (hT : MT y bytes mL ret' n) (hL : LkS own idx y) (hn : as.length = n) (hst : st = as.reverse ++ rest) (hlv : lv.length = nL) (hr : Nat.ble (rest.map fun v => v.category).sum 8 = true) (hR : rmB rm cells slots fr lo mL mc ms = true) (hd : decode cc pc = .ok (.invokestatic idx, 3))
    (k : V E X Z (cells + mc) (slots + ms) sh2 I2 J2 R2 (pc + 3) lv (.int r :: rest)) : V E X Z cells slots sh I J R pc lv st :=
  v_callS C hM hT hL hn hst hlv (Nat.le_of_ble_eq_true hr) (rmB_ok hR) hd (fun v sh' I' J' R' h => by obtain ⟨rfl, rfl, rfl, rfl, rfl⟩ := h; exact k)
theorem v_callSv {idx : Nat} {y : MethodName} {bytes : ByteArray} {mL : Nat} {ret' : Option FieldType} {fr lo mc ms n : Nat} {as rest : List Value} (C : Cx E X own cc nL ret nm rm) (hM : Ct (xl X) E y bytes mL ret' fr lo as sh I J R mc ms (m_ret none sh2 I2 J2 R2)) (hT : MT y bytes mL ret' n) (hL : LkS own idx y) (hn : as.length = n) (hst : st = as.reverse ++ rest) (hlv : lv.length = nL) (hr : Nat.ble (rest.map fun v => v.category).sum 8 = true) (hR : rmB rm cells slots fr lo mL mc ms = true) (hd : decode cc pc = .ok (.invokestatic idx, 3))
    (k : V E X Z (cells + mc) (slots + ms) sh2 I2 J2 R2 (pc + 3) lv rest) : V E X Z cells slots sh I J R pc lv st :=
  v_callS C hM hT hL hn hst hlv (Nat.le_of_ble_eq_true hr) (rmB_ok hR) hd (fun v sh' I' J' R' h => by obtain ⟨rfl, rfl, rfl, rfl, rfl⟩ := h; exact k)
theorem v_callNSi {idx : Nat} {y : MethodName} {host : String} {bytes : ByteArray} {mL : Nat} {ret' : Option FieldType} {fr lo mc ms n : Nat} {as rest : List Value} {r : Int32} (C : Cx E X own cc nL ret nm rm) (hM : Ct (xl X) E y bytes mL ret' fr lo as sh I J R mc ms (m_ret (some (.int r)) sh2 I2 J2 R2)) (hT : MT y bytes mL ret' n) (hL : LNS own idx y host) (hn : as.length = n) (hst : st = as.reverse ++ rest) (hlv : lv.length = nL) (hr : Nat.ble (rest.map fun v => v.category).sum 8 = true) (hR : rmB rm cells slots fr lo mL mc ms = true) (hd : decode cc pc = .ok (.invokestatic idx, 3))
    (k : V E X Z (cells + mc) (slots + ms) sh2 I2 J2 R2 (pc + 3) lv (.int r :: rest)) : V E X Z cells slots sh I J R pc lv st :=
  v_callNS C hM hT hL hn hst hlv (Nat.le_of_ble_eq_true hr) (rmB_ok hR) hd (fun v sh' I' J' R' h => by obtain ⟨rfl, rfl, rfl, rfl, rfl⟩ := h; exact k)
theorem v_callNIv {idx a : Nat} {y : MethodName} {host : String} {bytes : ByteArray} {mL : Nat} {fr lo mc ms n : Nat} {as rest : List Value} (C : Cx E X own cc nL ret nm rm) (hM : Ct (xl X) E y bytes mL none fr lo (.ref a :: as) sh I J R mc ms (m_ret none sh2 I2 J2 R2)) (hT : MT y bytes mL none n) (hL : LNI own idx y host) (hn : as.length = n) (hst : st = as.reverse ++ .ref a :: rest) (hlv : lv.length = nL) (hr : Nat.ble (rest.map fun v => v.category).sum 8 = true) (hR : rmB rm cells slots fr lo mL mc ms = true) (hd : decode cc pc = .ok (.invokespecial idx, 3))
    (k : V E X Z (cells + mc) (slots + ms) sh2 I2 J2 R2 (pc + 3) lv rest) : V E X Z cells slots sh I J R pc lv st :=
  v_callNI C hM hT hL hn hst hlv (Nat.le_of_ble_eq_true hr) (rmB_ok hR) hd (fun v sh' I' J' R' h => by obtain ⟨rfl, rfl, rfl, rfl, rfl⟩ := h; exact k)
theorem v_callIv {idx a : Nat} {y : MethodName} {bytes : ByteArray} {mL : Nat} {fr lo mc ms n : Nat} {as rest : List Value} (C : Cx E X own cc nL ret nm rm) (hM : Ct (xl X) E y bytes mL none fr lo (.ref a :: as) sh I J R mc ms (m_ret none sh2 I2 J2 R2)) (hT : MT y bytes mL none n) (hL : LI own idx y) (hn : as.length = n) (hst : st = as.reverse ++ .ref a :: rest) (hlv : lv.length = nL) (hr : Nat.ble (rest.map fun v => v.category).sum 8 = true) (hR : rmB rm cells slots fr lo mL mc ms = true) (hd : decode cc pc = .ok (.invokespecial idx, 3))
    (k : V E X Z (cells + mc) (slots + ms) sh2 I2 J2 R2 (pc + 3) lv rest) : V E X Z cells slots sh I J R pc lv st :=
  v_callI C hM hT hL hn hst hlv (Nat.le_of_ble_eq_true hr) (rmB_ok hR) hd (fun v sh' I' J' R' h => by obtain ⟨rfl, rfl, rfl, rfl, rfl⟩ := h; exact k)
/-- a value on the stack may be renamed -/
theorem v_eqi {x y : Int32} (h : x = y) (k : V E X Z cells slots sh I J R pc lv (.int y :: st)) : V E X Z cells slots sh I J R pc lv (.int x :: st) := h ▸ k
theorem v_eqI (h : I = I2) (k : V E X Z cells slots sh I2 J R pc lv st) : V E X Z cells slots sh I J R pc lv st := h ▸ k
theorem v_lv {lv' : List (Option Value)} (h : lv = lv') (k : V E X Z cells slots sh I J R pc lv' st) : V E X Z cells slots sh I J R pc lv st := h ▸ k
end VC2
