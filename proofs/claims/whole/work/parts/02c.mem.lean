/-! ===== rows: fields, arrays, new cells ===== -/
theorem m_fs_get {b ci k : Nat} {i : Nat → Int32} {r : Nat → Option Nat} (hk : k < m_N ci) : (m_fs b ci i r)[k]? = some (m_fv b ci i r k) := by
  simp [m_fs, hk]
theorem m_fs_len {b ci : Nat} {i : Nat → Int32} {r : Nat → Option Nat} : (m_fs b ci i r).length = m_N ci := by simp [m_fs]
theorem m_fs_set {b ci k : Nat} {i i' : Nat → Int32} {r r' : Nat → Option Nat} {v : Value} (hk : k < m_N ci) (hv : v = m_fv b ci i' r' k) (ho : ∀ j, j ≠ k → m_fv b ci i' r' j = m_fv b ci i r j) : (m_fs b ci i r).set k v = m_fs b ci i' r' := by
  apply List.ext_getElem?
  intro j
  by_cases hj : j = k
  · subst hj
    rw [List.getElem?_set_self (by rw [m_fs_len]; exact hk), m_fs_get hk, hv]
  · rw [List.getElem?_set_ne (Ne.symm hj)]
    by_cases hl : j < m_N ci
    · rw [m_fs_get hl, m_fs_get hl, ho j hj]
    · rw [List.getElem?_eq_none (by rw [m_fs_len]; omega), List.getElem?_eq_none (by rw [m_fs_len]; omega)]
theorem m_wsX0 : ∀ w ∈ u_ws RX0 TX0 2, w ∈ TW := by decide +kernel
theorem m_wsX1 : ∀ w ∈ u_ws RX1 TX1 3, w ∈ TW := by decide +kernel
theorem m_wsX2 : ∀ w ∈ u_ws RX2 TX2 4, w ∈ TW := by decide +kernel
theorem m_wsX3 : ∀ w ∈ u_ws RX3 TX3 6, w ∈ TW := by decide +kernel
theorem m_wsX4 : ∀ w ∈ u_ws RX4 TX4 8, w ∈ TW := by decide +kernel
theorem m_wsX5 : ∀ w ∈ u_ws RX5 TX5 5, w ∈ TW := by decide +kernel
theorem m_wsX6 : ∀ w ∈ u_ws RX6 TX6 9, w ∈ TW := by decide +kernel
theorem m_wsX7 : ∀ w ∈ u_ws RX7 TX7 5, w ∈ TW := by decide +kernel
theorem m_wsX8 : ∀ w ∈ u_ws RX8 TX8 8, w ∈ TW := by decide +kernel
theorem m_wsX9 : ∀ w ∈ u_ws RX9 TX9 9, w ∈ TW := by decide +kernel
theorem m_wsX10 : ∀ w ∈ u_ws RX10 TX10 15, w ∈ TW := by decide +kernel
theorem m_wsX11 : ∀ w ∈ u_ws RX11 TX11 58, w ∈ TW := by decide +kernel
def m_ok (ci : Nat) (q : vw_C) : Prop := (∀ w ∈ u_ws q.1 q.2.1 q.2.2, w ∈ TW) ∧ (∀ k, k < q.2.2 → parseFieldDescriptor (q.2.1 k).2.2.1 = some (m_ty ci k)) ∧ (∀ a, a < q.2.2 → ∀ b, b < q.2.2 → a ≠ b → (q.2.1 a).2.1 ≠ (q.2.1 b).2.1) ∧ q.2.2 = m_N ci
theorem m_cls {ci : Nat} {q : vw_C} (h : vwCl[ci]? = some q) : m_ok ci q := by
  match ci, h with
  | 0, h => cases h; exact ⟨m_wsX0, tyX0_ok, nmX0, rfl⟩
  | 1, h => cases h; exact ⟨m_wsX1, tyX1_ok, nmX1, rfl⟩
  | 2, h => cases h; exact ⟨m_wsX2, tyX2_ok, nmX2, rfl⟩
  | 3, h => cases h; exact ⟨m_wsX3, tyX3_ok, nmX3, rfl⟩
  | 4, h => cases h; exact ⟨m_wsX4, tyX4_ok, nmX4, rfl⟩
  | 5, h => cases h; exact ⟨m_wsX5, tyX5_ok, nmX5, rfl⟩
  | 6, h => cases h; exact ⟨m_wsX6, tyX6_ok, nmX6, rfl⟩
  | 7, h => cases h; exact ⟨m_wsX7, tyX7_ok, nmX7, rfl⟩
  | 8, h => cases h; exact ⟨m_wsX8, tyX8_ok, nmX8, rfl⟩
  | 9, h => cases h; exact ⟨m_wsX9, tyX9_ok, nmX9, rfl⟩
  | 10, h => cases h; exact ⟨m_wsX10, tyX10_ok, nmX10, rfl⟩
  | 11, h => cases h; exact ⟨m_wsX11, tyX11_ok, nmX11, rfl⟩
  | n + 12, h => simp [vwCl] at h
def m_cellOK (ci : Nat) : Bool := (List.range (m_N ci)).all (fun j => defaultValue (m_ty ci j) == (if m_isI ci j then .int 0 else .null))
theorem m_dflt0 : (List.range 12).all m_cellOK = true := by decide +kernel
theorem m_dflt {ci j : Nat} (hc : ci < 12) (hj : j < m_N ci) : defaultValue (m_ty ci j) = (if m_isI ci j then .int 0 else .null) := by
  have h1 := List.all_eq_true.mp m_dflt0 ci (List.mem_range.mpr hc)
  have h2 := List.all_eq_true.mp h1 j (List.mem_range.mpr hj)
  exact beq_iff_eq.mp h2
/-- a field by its place in a class's constant pool: class ci, slot k, final or not -/
def FL (own : String) (idx ci k : Nat) (fin : Bool) : Prop := ∃ q : vw_C, vwCl[ci]? = some q ∧ k < q.2.2 ∧ (q.2.1 k).2.2.2 = fin ∧ Cond.fieldLink own idx (q.2.1 k).1 (q.2.1 k).2.1 (q.2.1 k).2.2.1 ∈ TW
/-- an index in its row -/
def At (i : Int32) (n j : Nat) : Prop := i.toNatClampNeg = j ∧ vp_in i n
theorem at_nI {n j : Nat} (h : j < n) (hn : n < 2 ^ 31) : At (nI j) n j := ⟨nI_clamp (Nat.lt_trans h hn), vp_in_nI h hn⟩
theorem At.lt {i : Int32} {n j : Nat} (h : At i n j) : j < n := by
  have h2 := h.2
  unfold vp_in at h2
  have h1 := h.1
  omega
theorem At.eq {i : Int32} {n j : Nat} (h : At i n j) (hn : n < 2 ^ 31) : i = nI j := by
  obtain ⟨k, hk, rfl⟩ := vp_in_of h.2 hn
  rw [← h.1, nI_clamp (Nat.lt_trans hk hn)]
theorem m_upd {E : En} {sh : List Sh} {I I' : IM} {J J' : JM} {R R' : RM} {H H1 : Heap} {a : Nat} {h : Sh} (hP : m_P E sh I J R H) (ha : sh[a]? = some h) (hI : ∀ b, b ≠ a → I' b = I b) (hJ : ∀ b, b ≠ a → J' b = J b) (hR : ∀ b, b ≠ a → R' b = R b) (hat : va_at (e_D E) vwCl (e_b E + a, m_cell E h (I' a) (J' a) (R' a)) H1) (z : H1.size = H.size) (oq : ∀ q : Nat, q ≠ e_b E + a → H1[q]? = H[q]?) : m_P E sh I' J' R' H1 := by
  refine ⟨?_, by rw [z]; exact hP.2⟩
  have h1 := va_P.set (A := m_A E) hP.1 (m_D E sh I J R) (m_ws_get ha) hat oq
  rwa [m_ws_set ha hI hJ hR rfl] at h1
theorem iu_ne {I : IM} {a k : Nat} {x : Int32} : ∀ b, b ≠ a → iu I a k x b = I b := fun b hb => by funext j; simp [iu, hb]
theorem ju_ne {J : JM} {a k : Nat} {x : Int64} : ∀ b, b ≠ a → ju J a k x b = J b := fun b hb => by funext j; simp [ju, hb]
theorem ru_ne {R : RM} {a k : Nat} {x : Option Nat} : ∀ b, b ≠ a → ru R a k x b = R b := fun b hb => by funext j; simp [ru, hb]
theorem iu_at {I : IM} {a k : Nat} {x : Int32} : iu I a k x a = upd (I a) k x := by funext j; simp [iu, upd]
theorem ju_at {J : JM} {a k : Nat} {x : Int64} : ju J a k x a = vp_updL (J a) k x := by funext j; simp [ju, vp_updL]
theorem ru_at {R : RM} {a k : Nat} {x : Option Nat} : ru R a k x a = va_up (R a) k x := by funext j; simp [ru, va_up]
def i0 (I : IM) (a : Nat) : IM := fun b j => if b = a then 0 else I b j
def j0 (J : JM) (a : Nat) : JM := fun b j => if b = a then 0 else J b j
def r0 (R : RM) (a : Nat) : RM := fun b j => if b = a then none else R b j
section VM
variable {E : En} {X : Ctx} {own : String} {cc : ByteArray} {nL : Nat} {ret : Option FieldType} {nm : String} {rm : Room} {Z : State → Prop} {cells slots : Nat} {sh : List Sh} {I : IM} {J : JM} {R : RM} {pc : Nat} {lv : List (Option Value)} {st : List Value}
theorem v_getI {idx ci k a : Nat} {fin : Bool} (C : Cx E X own cc nL ret nm rm) (hf : FL own idx ci k fin) (hi : m_isI ci k = true) (hsh : sh[a]? = some (.inl ci)) (hd : decode cc pc = .ok (.getfield idx, 3)) (kk : V E X Z cells slots sh I J R (pc + 3) lv (.int (I a k) :: st)) : V E X Z cells slots sh I J R pc lv (.ref a :: st) := by
  intro H locs ls hP hS hl
  obtain ⟨⟨Cn, T, N⟩, h1, h2, -, h3⟩ := hf
  have hc := m_cls h1
  have hN : N = m_N ci := hc.2.2.2
  refine va_get (D := e_D E) (ci := ci) (v := .int (I a k)) (C := Cn) (T := T) (N := N) C.1 C.2.1 C.2.2.2.2.1 hc.1 C.2.2.2.1 C.2.2.2.2.2.2.1 hP.1 a (m_ws_get hsh) h1 k h2 (C.2.2.2.2.1 _ h3) (fun _ h => h) ?_ hd (kk H locs ls hP hS hl)
  rw [m_fs_get (by rw [← hN]; exact h2), m_fv, if_pos hi]
theorem v_getR {idx ci k a : Nat} {fin : Bool} (b : Nat) (C : Cx E X own cc nL ret nm rm) (hf : FL own idx ci k fin) (hi : m_isI ci k = false) (hsh : sh[a]? = some (.inl ci)) (hr : R a k = some b) (hd : decode cc pc = .ok (.getfield idx, 3)) (kk : V E X Z cells slots sh I J R (pc + 3) lv (.ref b :: st)) : V E X Z cells slots sh I J R pc lv (.ref a :: st) := by
  intro H locs ls hP hS hl
  obtain ⟨⟨Cn, T, N⟩, h1, h2, -, h3⟩ := hf
  have hc := m_cls h1
  have hN : N = m_N ci := hc.2.2.2
  refine va_get (D := e_D E) (ci := ci) (v := .ref (e_b E + b)) (C := Cn) (T := T) (N := N) C.1 C.2.1 C.2.2.2.2.1 hc.1 C.2.2.2.1 C.2.2.2.2.2.2.1 hP.1 a (m_ws_get hsh) h1 k h2 (C.2.2.2.2.1 _ h3) (fun _ h => h) ?_ hd (kk H locs ls hP hS hl)
  rw [m_fs_get (by rw [← hN]; exact h2), m_fv, hi, hr]
  rfl
theorem v_getN {idx ci k a : Nat} {fin : Bool} (C : Cx E X own cc nL ret nm rm) (hf : FL own idx ci k fin) (hi : m_isI ci k = false) (hsh : sh[a]? = some (.inl ci)) (hr : R a k = none) (hd : decode cc pc = .ok (.getfield idx, 3)) (kk : V E X Z cells slots sh I J R (pc + 3) lv (.null :: st)) : V E X Z cells slots sh I J R pc lv (.ref a :: st) := by
  intro H locs ls hP hS hl
  obtain ⟨⟨Cn, T, N⟩, h1, h2, -, h3⟩ := hf
  have hc := m_cls h1
  have hN : N = m_N ci := hc.2.2.2
  refine va_get (D := e_D E) (ci := ci) (v := .null) (C := Cn) (T := T) (N := N) C.1 C.2.1 C.2.2.2.2.1 hc.1 C.2.2.2.1 C.2.2.2.2.2.2.1 hP.1 a (m_ws_get hsh) h1 k h2 (C.2.2.2.2.1 _ h3) (fun _ h => h) ?_ hd (kk H locs ls hP hS hl)
  rw [m_fs_get (by rw [← hN]; exact h2), m_fv, hi, hr]
  rfl
/-- a store into a field that isn't final -/
theorem v_putW {idx ci k a : Nat} {v : Value} {I' : IM} {R' : RM} (C : Cx E X own cc nL ret nm rm) (hf : FL own idx ci k false) (hsh : sh[a]? = some (.inl ci)) (hn : narrow (m_ty ci k) v = v) (hfit : fits (m_ty ci k) v = true) (hI : ∀ b, b ≠ a → I' b = I b) (hR : ∀ b, b ≠ a → R' b = R b) (hv : v = m_fv (e_b E) ci (I' a) (R' a) k) (ho : ∀ j, j ≠ k → m_fv (e_b E) ci (I' a) (R' a) j = m_fv (e_b E) ci (I a) (R a) j) {st0 : List Value} (hd : decode cc pc = .ok (.putfield idx, 3)) (kk : V E X Z cells slots sh I' J R' (pc + 3) lv st) :
    ∀ (H : Heap) (locs : List Loc) (ls : Array Slot), m_P E sh I J R H → va_S (m_A E) (xs X).heap H locs → lv_has ls lv.length (lvA (e_b E) lv) → W (xp X) (xl X) (xe X) (xR X) (xs X) (xm X) (xa X) (xb X) (xt X) (xc X) H locs cells slots Z (F0 (xm X) pc ls (v :: .ref (e_b E + a) :: st.map (m_v (e_b E)))) := by
  intro H locs ls hP hS0 hl
  obtain ⟨⟨Cn, T, N⟩, h1, h2, h2f, h3⟩ := hf
  have hc0 := m_cls h1
  have hN : N = m_N ci := hc0.2.2.2
  obtain ⟨hx, hb, hml, hown, hts, hnw, hK, hbs, hlk, hrt, hnm, hR0⟩ := C
  have hap := va_apart (own := own) hts hc0.1 (m_ty ci) hc0.2.1 hc0.2.2.1 hK h1
  obtain ⟨r, g1, cell, q1, q2, q3, q4⟩ := hP.1 a _ (m_ws_get hsh)
  have hr : r = (Cn, T, N) := Option.some.inj (g1.symm.trans h1)
  subst hr
  obtain ⟨hS, hfc, kC, hkC, hkind⟩ := hK.1 ci _ h1
  obtain ⟨cf, kf, fi, f, hi, hsl⟩ := hS k h2
  have hlay := hts _ (hc0.1 _ (u_in_lay h2))
  unfold u_lay at hlay
  rw [if_neg (by rw [h2f]; decide)] at hlay
  have hst := (u_facts hfc hkC (u_lays hts hc0.1 h2) hi).1
  have h6 := u_store hfc hkC hkind hlay hi (hc0.2.1 k h2) hn hfit
  refine W.putK hx hb (f := f) ⟨hown, hts _ h3, ⟨_, _, _, hi⟩, hst⟩ (by rw [q2]; exact h6) q1 q3 (by rw [hsl]; exact k2_hasslot (q4 k h2)) rfl rfl hd fun H' e1 e2 e3 => ?_
  rw [hsl] at e1
  have hkl : k < (m_fs (e_b E) ci (I a) (R a)).length := by rw [m_fs_len, ← hN]; exact h2
  have hob := t_OB.to (V := updV (vp_V (m_fs (e_b E) ci (I a) (R a))) k v) ⟨_, e1, q2, q3, t_set q4 hap h2 v⟩ (fun j _ => vp_updV_set hkl v j)
  rw [m_fs_set (by rw [← hN]; exact h2) hv ho] at hob
  exact kk H' _ ls (m_upd hP hsh hI (fun _ _ => rfl) hR ⟨_, h1, hob⟩ e2 e3) (hS0.put e2 e3 (Nat.le_add_right _ _)) hl
/-- a store into a final field, in a constructor -/
theorem v_putWF {idx ci k a : Nat} {v : Value} {I' : IM} {R' : RM} (C : Cx E X own cc nL ret nm rm) (hf : FL own idx ci k true) (hin2 : nm = "<init>") (hdecl : (vwCl[ci]?).map (fun q => (q.2.1 k).1) = some own) (hsh : sh[a]? = some (.inl ci)) (hn : narrow (m_ty ci k) v = v) (hfit : fits (m_ty ci k) v = true) (hI : ∀ b, b ≠ a → I' b = I b) (hR : ∀ b, b ≠ a → R' b = R b) (hv : v = m_fv (e_b E) ci (I' a) (R' a) k) (ho : ∀ j, j ≠ k → m_fv (e_b E) ci (I' a) (R' a) j = m_fv (e_b E) ci (I a) (R a) j) {st0 : List Value} (hd : decode cc pc = .ok (.putfield idx, 3)) (kk : V E X Z cells slots sh I' J R' (pc + 3) lv st) :
    ∀ (H : Heap) (locs : List Loc) (ls : Array Slot), m_P E sh I J R H → va_S (m_A E) (xs X).heap H locs → lv_has ls lv.length (lvA (e_b E) lv) → W (xp X) (xl X) (xe X) (xR X) (xs X) (xm X) (xa X) (xb X) (xt X) (xc X) H locs cells slots Z (F0 (xm X) pc ls (v :: .ref (e_b E + a) :: st.map (m_v (e_b E)))) := by
  intro H locs ls hP hS0 hl
  obtain ⟨⟨Cn, T, N⟩, h1, h2, h2f, h3⟩ := hf
  have hc0 := m_cls h1
  have hN : N = m_N ci := hc0.2.2.2
  obtain ⟨hx, hb, hml, hown, hts, hnw, hK, hbs, hlk, hrt, hnm, hR0⟩ := C
  have hdec : (T k).1 = own := by rw [h1] at hdecl; exact Option.some.inj hdecl
  have hap := va_apart (own := own) hts hc0.1 (m_ty ci) hc0.2.1 hc0.2.2.1 hK h1
  obtain ⟨r, g1, cell, q1, q2, q3, q4⟩ := hP.1 a _ (m_ws_get hsh)
  have hr : r = (Cn, T, N) := Option.some.inj (g1.symm.trans h1)
  subst hr
  obtain ⟨hS, hfc, kC, hkC, hkind⟩ := hK.1 ci _ h1
  obtain ⟨cf, kf, fi, f, hi, hsl⟩ := hS k h2
  have hlay := hts _ (hc0.1 _ (u_in_lay h2))
  unfold u_lay at hlay
  rw [if_pos h2f] at hlay
  have hst := (u_facts hfc hkC (u_lays hts hc0.1 h2) hi).1
  have hcf : (xm X).cls = cf := by
    obtain ⟨_, _, c', _, _, _, -, -, hf', -, -, -, hown2, -⟩ := Cond.laysFinal_spec hlay
    have e1 : c' = cf := by have := hi.symm.trans hf'; simp at this; exact this.1.symm
    have hown2' : (xs X).vm.findClass (T k).1 = some c' := hown2
    rw [hdec] at hown2'
    rw [← e1]; exact Option.some.inj (hown.symm.trans hown2')
  have h6 := u_fits hfc hkC hkind (Or.inr hlay) hi (hc0.2.1 k h2) hn hfit
  refine W.putFinK hx hb hown (hts _ h3) hi hst hcf (by rw [hnm]; exact hin2) (by rw [q2]; exact h6) q1 q3 (by rw [hsl]; exact k2_hasslot (q4 k h2)) rfl rfl hd fun H' e1 e2 e3 => ?_
  rw [hsl] at e1
  have hkl : k < (m_fs (e_b E) ci (I a) (R a)).length := by rw [m_fs_len, ← hN]; exact h2
  have hob := t_OB.to (V := updV (vp_V (m_fs (e_b E) ci (I a) (R a))) k v) ⟨_, e1, q2, q3, t_set q4 hap h2 v⟩ (fun j _ => vp_updV_set hkl v j)
  rw [m_fs_set (by rw [← hN]; exact h2) hv ho] at hob
  exact kk H' _ ls (m_upd hP hsh hI (fun _ _ => rfl) hR ⟨_, h1, hob⟩ e2 e3) (hS0.put e2 e3 (Nat.le_add_right _ _)) hl
theorem m_fvI {b ci k : Nat} {I : IM} {R : RM} {a : Nat} {x : Int32} (hi : m_isI ci k = true) : Value.int x = m_fv b ci (iu I a k x a) (R a) k := by simp [m_fv, hi, iu]
theorem m_fvIo {b ci k : Nat} {I : IM} {R : RM} {a : Nat} {x : Int32} : ∀ j, j ≠ k → m_fv b ci (iu I a k x a) (R a) j = m_fv b ci (I a) (R a) j := fun j hj => by simp [m_fv, iu, hj]
theorem m_fvR {b ci k : Nat} {I : IM} {R : RM} {a c : Nat} (hi : m_isI ci k = false) : Value.ref (b + c) = m_fv b ci (I a) (ru R a k (some c) a) k := by simp [m_fv, hi, ru, va_rf]
theorem m_fvRo {b ci k : Nat} {I : IM} {R : RM} {a : Nat} {x : Option Nat} : ∀ j, j ≠ k → m_fv b ci (I a) (ru R a k x a) j = m_fv b ci (I a) (R a) j := fun j hj => by simp [m_fv, ru, hj]
theorem m_isI_int {ci k : Nat} (h : m_ty ci k = .int) : m_isI ci k = true := by simp [m_isI, h]
theorem m_isI_bool {ci k : Nat} (h : m_ty ci k = .boolean) : m_isI ci k = true := by simp [m_isI, h]
theorem v_putI {idx ci k a : Nat} {x : Int32} (C : Cx E X own cc nL ret nm rm) (hf : FL own idx ci k false) (ht : m_ty ci k = .int) (hsh : sh[a]? = some (.inl ci)) (hd : decode cc pc = .ok (.putfield idx, 3)) (kk : V E X Z cells slots sh (iu I a k x) J R (pc + 3) lv st) : V E X Z cells slots sh I J R pc lv (.int x :: .ref a :: st) :=
  v_putW (st0 := []) C hf hsh (by rw [ht]; rfl) (by rw [ht]; rfl) iu_ne (fun _ _ => rfl) (m_fvI (m_isI_int ht)) m_fvIo hd kk
theorem v_putZ {idx ci k a : Nat} {x : Int32} (C : Cx E X own cc nL ret nm rm) (hf : FL own idx ci k false) (ht : m_ty ci k = .boolean) (hx : x = 0 ∨ x = 1) (hsh : sh[a]? = some (.inl ci)) (hd : decode cc pc = .ok (.putfield idx, 3)) (kk : V E X Z cells slots sh (iu I a k x) J R (pc + 3) lv st) : V E X Z cells slots sh I J R pc lv (.int x :: .ref a :: st) :=
  v_putW (st0 := []) C hf hsh (by rw [ht]; rcases hx with rfl | rfl <;> rfl) (by rw [ht]; rcases hx with rfl | rfl <;> rfl) iu_ne (fun _ _ => rfl) (m_fvI (m_isI_bool ht)) m_fvIo hd kk
theorem v_putR {idx ci k a c : Nat} (C : Cx E X own cc nL ret nm rm) (hf : FL own idx ci k false) (hi : m_isI ci k = false) (hn : narrow (m_ty ci k) (.ref (e_b E + c)) = .ref (e_b E + c)) (hfit : fits (m_ty ci k) (.ref (e_b E + c)) = true) (hsh : sh[a]? = some (.inl ci)) (hd : decode cc pc = .ok (.putfield idx, 3)) (kk : V E X Z cells slots sh I J (ru R a k (some c)) (pc + 3) lv st) : V E X Z cells slots sh I J R pc lv (.ref c :: .ref a :: st) :=
  v_putW (st0 := []) C hf hsh hn hfit (fun _ _ => rfl) ru_ne (m_fvR hi) m_fvRo hd kk
theorem v_putFI {idx ci k a : Nat} {x : Int32} (C : Cx E X own cc nL ret nm rm) (hf : FL own idx ci k true) (ht : m_ty ci k = .int) (hin2 : nm = "<init>") (hdecl : (vwCl[ci]?).map (fun q => (q.2.1 k).1) = some own) (hsh : sh[a]? = some (.inl ci)) (hd : decode cc pc = .ok (.putfield idx, 3)) (kk : V E X Z cells slots sh (iu I a k x) J R (pc + 3) lv st) : V E X Z cells slots sh I J R pc lv (.int x :: .ref a :: st) :=
  v_putWF (st0 := []) C hf hin2 hdecl hsh (by rw [ht]; rfl) (by rw [ht]; rfl) iu_ne (fun _ _ => rfl) (m_fvI (m_isI_int ht)) m_fvIo hd kk
theorem v_putFR {idx ci k a c : Nat} (C : Cx E X own cc nL ret nm rm) (hf : FL own idx ci k true) (hi : m_isI ci k = false) (hn : narrow (m_ty ci k) (.ref (e_b E + c)) = .ref (e_b E + c)) (hfit : fits (m_ty ci k) (.ref (e_b E + c)) = true) (hin2 : nm = "<init>") (hdecl : (vwCl[ci]?).map (fun q => (q.2.1 k).1) = some own) (hsh : sh[a]? = some (.inl ci)) (hd : decode cc pc = .ok (.putfield idx, 3)) (kk : V E X Z cells slots sh I J (ru R a k (some c)) (pc + 3) lv st) : V E X Z cells slots sh I J R pc lv (.ref c :: .ref a :: st) :=
  v_putWF (st0 := []) C hf hin2 hdecl hsh hn hfit (fun _ _ => rfl) ru_ne (m_fvR hi) m_fvRo hd kk
theorem v_iaload {a n : Nat} {i : Int32} (j : Nat) (C : Cx E X own cc nL ret nm rm) (hsh : sh[a]? = some (.inr (0, n))) (hj : At i n j) (hd : decode cc pc = .ok (.iaload, 1)) (k : V E X Z cells slots sh I J R (pc + 1) lv (.int (I a j) :: st)) : V E X Z cells slots sh I J R pc lv (.int i :: .ref a :: st) := by
  intro H locs ls hP hS hl
  refine va_iald C.1 C.2.1 C.2.2.2.2.2.2.1 hP.1 a 0 (m_ws_get hsh) rfl hj.2 hd ?_
  rw [hj.1]
  exact k H locs ls hP hS hl
theorem v_baload {a n : Nat} {i : Int32} (j : Nat) (C : Cx E X own cc nL ret nm rm) (hsh : sh[a]? = some (.inr (2, n))) (hj : At i n j) (hd : decode cc pc = .ok (.baload, 1)) (k : V E X Z cells slots sh I J R (pc + 1) lv (.int (I a j) :: st)) : V E X Z cells slots sh I J R pc lv (.int i :: .ref a :: st) := by
  intro H locs ls hP hS hl
  refine va_bald C.1 C.2.1 C.2.2.2.2.2.2.1 hP.1 a 2 (m_ws_get hsh) rfl hj.2 hd ?_
  rw [hj.1]
  exact k H locs ls hP hS hl
theorem v_zaload {a n : Nat} {i : Int32} (j : Nat) (C : Cx E X own cc nL ret nm rm) (hsh : sh[a]? = some (.inr (3, n))) (hj : At i n j) (hd : decode cc pc = .ok (.baload, 1)) (k : V E X Z cells slots sh I J R (pc + 1) lv (.int (I a j) :: st)) : V E X Z cells slots sh I J R pc lv (.int i :: .ref a :: st) := by
  intro H locs ls hP hS hl
  refine va_zald C.1 C.2.1 C.2.2.2.2.2.2.1 hP.1 a 3 (m_ws_get hsh) rfl hj.2 hd ?_
  rw [hj.1]
  exact k H locs ls hP hS hl
theorem v_laload {a n : Nat} {i : Int32} (j : Nat) (C : Cx E X own cc nL ret nm rm) (hsh : sh[a]? = some (.inr (1, n))) (hj : At i n j) (hd : decode cc pc = .ok (.laload, 1)) (k : V E X Z cells slots sh I J R (pc + 1) lv (.long (J a j) :: st)) : V E X Z cells slots sh I J R pc lv (.int i :: .ref a :: st) := by
  intro H locs ls hP hS hl
  refine va_lald C.1 C.2.1 C.2.2.2.2.2.2.1 hP.1 a 1 (m_ws_get hsh) rfl hj.2 hd ?_
  rw [hj.1]
  exact k H locs ls hP hS hl
end VM
