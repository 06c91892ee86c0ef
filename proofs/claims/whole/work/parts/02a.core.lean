/-! ===== the memory of the system: shapes, and what the cells hold; addresses count from the law's start ===== -/
abbrev Sh : Type := Nat ⊕ (Nat × Nat)
abbrev IM : Type := Nat → Nat → Int32
abbrev JM : Type := Nat → Nat → Int64
abbrev RM : Type := Nat → Nat → Option Nat
def iu (I : IM) (a k : Nat) (x : Int32) : IM := fun b j => if b = a ∧ j = k then x else I b j
def ju (J : JM) (a k : Nat) (x : Int64) : JM := fun b j => if b = a ∧ j = k then x else J b j
def ru (R : RM) (a k : Nat) (x : Option Nat) : RM := fun b j => if b = a ∧ j = k then x else R b j
abbrev En : Type := (Nat → ClassId) × (Nat → Nat → Nat) × (Nat → ClassId) × Nat
def e_D (E : En) : va_G := (E.1, E.2.1)
def e_b (E : En) : Nat := E.2.2.2
def e_tys (E : En) : List (ClassId × FieldType) := [(E.2.2.1 0, .int), (E.2.2.1 1, .long), (E.2.2.1 2, .byte), (E.2.2.1 3, .boolean), (E.2.2.1 4, .object RX7), (E.2.2.1 5, .object RX4), (E.2.2.1 6, .object RX0), (E.2.2.1 7, .object RX6)]
def m_v (b : Nat) (v : Value) : Value := match v with
  | .ref a => .ref (b + a)
  | .int x => .int x
  | .long x => .long x
  | .float x => .float x
  | .double x => .double x
  | .null => .null
  | .retAddr x => .ref x
def m_ty (ci k : Nat) : FieldType := match ci with
  | 0 => tyX0 k
  | 1 => tyX1 k
  | 2 => tyX2 k
  | 3 => tyX3 k
  | 4 => tyX4 k
  | 5 => tyX5 k
  | 6 => tyX6 k
  | 7 => tyX7 k
  | 8 => tyX8 k
  | 9 => tyX9 k
  | 10 => tyX10 k
  | _ => tyX11 k
def m_N (ci : Nat) : Nat := match ci with
  | 0 => 2
  | 1 => 3
  | 2 => 4
  | 3 => 6
  | 4 => 8
  | 5 => 5
  | 6 => 9
  | 7 => 5
  | 8 => 8
  | 9 => 9
  | 10 => 15
  | _ => 58
def m_isI (ci k : Nat) : Bool := match m_ty ci k with
  | .int => true
  | .boolean => true
  | _ => false
def m_fv (b ci : Nat) (i : Nat → Int32) (r : Nat → Option Nat) (k : Nat) : Value := if m_isI ci k = true then .int (i k) else va_rf ((r k).map (b + ·))
def m_fs (b ci : Nat) (i : Nat → Int32) (r : Nat → Option Nat) : List Value := (List.range (m_N ci)).map (m_fv b ci i r)
def m_arr (b t : Nat) (i : Nat → Int32) (j : Nat → Int64) (r : Nat → Option Nat) : ((Nat → Int32) ⊕ (Nat → Int64) ⊕ (Nat → UInt32) ⊕ (Nat → UInt64) ⊕ (Nat → Option Nat)) :=
  if t = 1 then .inr (.inl j) else if t < 4 then .inl i else .inr (.inr (.inr (.inr (fun k => (r k).map (b + ·)))))
def m_cell (E : En) (h : Sh) (i : Nat → Int32) (j : Nat → Int64) (r : Nat → Option Nat) : va_E := match h with
  | .inl ci => .inr (ci, m_fs (e_b E) ci i r)
  | .inr q => .inl (E.2.2.1 q.1, q.2, m_arr (e_b E) q.1 i j r)
def m_ws (E : En) (sh : List Sh) (I : IM) (J : JM) (R : RM) : va_W := (List.range sh.length).map (fun a => (e_b E + a, m_cell E (sh.getD a (.inl 0)) (I a) (J a) (R a)))
theorem m_ws_get {E : En} {sh : List Sh} {I : IM} {J : JM} {R : RM} {a : Nat} {h : Sh} (ha : sh[a]? = some h) : (m_ws E sh I J R)[a]? = some (e_b E + a, m_cell E h (I a) (J a) (R a)) := by
  obtain ⟨hl, he⟩ := List.getElem?_eq_some_iff.mp ha
  subst he
  simp [m_ws, hl]
theorem m_ws_len {E : En} {sh : List Sh} {I : IM} {J : JM} {R : RM} : (m_ws E sh I J R).length = sh.length := by simp [m_ws]
theorem m_ws_set {E : En} {sh : List Sh} {I I' : IM} {J J' : JM} {R R' : RM} {a : Nat} {h : Sh} {c : va_E} (ha : sh[a]? = some h) (hI : ∀ b, b ≠ a → I' b = I b) (hJ : ∀ b, b ≠ a → J' b = J b) (hR : ∀ b, b ≠ a → R' b = R b) (hc : c = m_cell E h (I' a) (J' a) (R' a)) : (m_ws E sh I J R).set a (e_b E + a, c) = m_ws E sh I' J' R' := by
  have hl : a < sh.length := (List.getElem?_eq_some_iff.mp ha).1
  apply List.ext_getElem?
  intro k
  by_cases hk : k = a
  · subst hk
    rw [List.getElem?_set_self (by rw [m_ws_len]; exact hl), m_ws_get ha, hc]
  · rw [List.getElem?_set_ne (Ne.symm hk)]
    by_cases hkl : k < sh.length
    · have hg : sh[k]? = some sh[k] := List.getElem?_eq_getElem hkl
      rw [m_ws_get hg, m_ws_get hg, hI k hk, hJ k hk, hR k hk]
    · rw [List.getElem?_eq_none (by rw [m_ws_len]; omega), List.getElem?_eq_none (by rw [m_ws_len]; omega)]
theorem m_ws_push {E : En} {sh : List Sh} {I I' : IM} {J J' : JM} {R R' : RM} {h : Sh} {c : va_E} (hI : ∀ b, b < sh.length → I' b = I b) (hJ : ∀ b, b < sh.length → J' b = J b) (hR : ∀ b, b < sh.length → R' b = R b) (hc : c = m_cell E h (I' sh.length) (J' sh.length) (R' sh.length)) : m_ws E sh I J R ++ [(e_b E + sh.length, c)] = m_ws E (sh ++ [h]) I' J' R' := by
  apply List.ext_getElem?
  intro k
  by_cases hk : k < sh.length
  · have hg : sh[k]? = some sh[k] := List.getElem?_eq_getElem hk
    rw [List.getElem?_append_left (by rw [m_ws_len]; exact hk), m_ws_get hg, m_ws_get (h := sh[k]) (by rw [List.getElem?_append_left hk]; exact hg), hI k hk, hJ k hk, hR k hk]
  · by_cases hk2 : k = sh.length
    · subst hk2
      rw [List.getElem?_append_right (by rw [m_ws_len]; omega), m_ws_len, Nat.sub_self, m_ws_get (h := h) (by simp), hc]
      rfl
    · rw [List.getElem?_eq_none (by simp [m_ws_len]; omega), List.getElem?_eq_none (by simp [m_ws_len]; omega)]
def m_P (E : En) (sh : List Sh) (I : IM) (J : JM) (R : RM) (H : Heap) : Prop := va_P (e_D E) vwCl (m_ws E sh I J R) H ∧ H.size = e_b E + sh.length
def m_A (E : En) : Nat → Prop := fun q => e_b E ≤ q
theorem m_D (E : En) (sh : List Sh) (I : IM) (J : JM) (R : RM) : va_D (m_A E) (m_ws E sh I J R) := by
  have key : ∀ (k : Nat) (q : Nat × va_E), (m_ws E sh I J R)[k]? = some q → q.1 = e_b E + k := by
    intro k q hk
    have hl : k < sh.length := by have := (List.getElem?_eq_some_iff.mp hk).1; rwa [m_ws_len] at this
    rw [m_ws_get (List.getElem?_eq_getElem hl)] at hk
    cases hk
    rfl
  refine ⟨fun i j p q hi hj hpq => ?_, fun k q hk => ?_⟩
  · have h1 := key i p hi
    have h2 := key j q hj
    omega
  · have h1 := key k q hk
    show e_b E ≤ q.1
    omega
/-! the words -/
def TW : List Cond := lw_tbl.filter goodWord
theorem tw_in {w : Cond} (h : w ∈ lw_tbl) (hg : goodWord w = true) : w ∈ TW := List.mem_filter.mpr ⟨h, hg⟩
theorem tw_good {y : MethodName} {cc : ByteArray} {mL : Nat} {ret : Option FieldType} (h : Cond.code y cc mL ret ∈ TW) : GoodIn TW (Cond.code y cc mL ret :: TW) := by
  intro w hw
  rcases List.mem_cons.mp hw with rfl | hw
  · exact ⟨h, good_of_word (List.mem_filter.mp h).2⟩
  · exact ⟨hw, good_of_word (List.mem_filter.mp hw).2⟩
def isNest : Cond → Bool
  | .methodLinkNest _ _ _ _ => true
  | .arrayOver (.object _) => true
  | _ => false
def NW : List Cond := lw_tbl.filter isNest
theorem nw_moved {s U : State} (hW : s.WarmedH U.vm) (h : ∀ w ∈ NW, va_Nw w s) : ∀ w ∈ NW, va_Nw w U := by
  intro w hw
  have h1 := h w hw
  have h2 := (List.mem_filter.mp hw).2
  cases w with
  | methodLinkNest a i x h => exact va_Nw.warmM hW h1
  | arrayOver t =>
    cases t with
    | object C => exact va_AO.moved hW.alike h1
    | _ => simp [isNest] at h2
  | _ => simp [isNest] at h2
theorem nw_calling {U : State} {g : JFrame} {mk : MethodId} {a : Array Value} (h : ∀ w ∈ NW, va_Nw w U) : ∀ w ∈ NW, va_Nw w (U.calling g mk a) := by
  intro w hw
  have h1 := h w hw
  have h2 := (List.mem_filter.mp hw).2
  cases w with
  | methodLinkNest a i x h => exact va_Nw.same rfl (u := U) rfl h1
  | arrayOver t =>
    cases t with
    | object C => exact va_AO.moved (u := U) (Vm.Alike.refl U.vm) h1
    | _ => simp [isNest] at h2
  | _ => simp [isNest] at h2
/-! contexts: a method's frame -/
abbrev Ctx : Type := Program × Launch × Env × Room × State × MethodId × Array Value × List Frame × Method × Code
abbrev xp (X : Ctx) : Program := X.1
abbrev xl (X : Ctx) : Launch := X.2.1
abbrev xe (X : Ctx) : Env := X.2.2.1
abbrev xR (X : Ctx) : Room := X.2.2.2.1
abbrev xs (X : Ctx) : State := X.2.2.2.2.1
abbrev xm (X : Ctx) : MethodId := X.2.2.2.2.2.1
abbrev xa (X : Ctx) : Array Value := X.2.2.2.2.2.2.1
abbrev xb (X : Ctx) : List Frame := X.2.2.2.2.2.2.2.1
abbrev xt (X : Ctx) : Method := X.2.2.2.2.2.2.2.2.1
abbrev xc (X : Ctx) : Code := X.2.2.2.2.2.2.2.2.2
def lvA (b : Nat) (lv : List (Option Value)) : List (Nat × Value) := (List.range lv.length).filterMap (fun i => (lv.getD i none).map (fun v => (i, m_v b v)))
theorem lvA_mem {b : Nat} {lv : List (Option Value)} {q : Nat × Value} : q ∈ lvA b lv ↔ ∃ v, lv[q.1]? = some (some v) ∧ q.2 = m_v b v := by
  unfold lvA
  rw [List.mem_filterMap]
  constructor
  · rintro ⟨i, hi, hq⟩
    have hl : i < lv.length := List.mem_range.mp hi
    rw [Option.map_eq_some_iff] at hq
    obtain ⟨v, h1, rfl⟩ := hq
    refine ⟨v, ?_, rfl⟩
    rw [List.getD_eq_getElem?_getD] at h1
    rw [List.getElem?_eq_getElem hl] at h1 ⊢
    exact congrArg some h1
  · rintro ⟨v, h1, h2⟩
    have hl : q.1 < lv.length := (List.getElem?_eq_some_iff.mp h1).1
    refine ⟨q.1, List.mem_range.mpr hl, ?_⟩
    rw [List.getD_eq_getElem?_getD, h1]
    show some (q.1, m_v b v) = some q
    rw [← h2]
def V (E : En) (X : Ctx) (Z : State → Prop) (cells slots : Nat) (sh : List Sh) (I : IM) (J : JM) (R : RM) (pc : Nat) (lv : List (Option Value)) (st : List Value) : Prop :=
  ∀ (H : Heap) (locs : List Loc) (ls : Array Slot), m_P E sh I J R H → va_S (m_A E) (xs X).heap H locs → lv_has ls lv.length (lvA (e_b E) lv) → W (xp X) (xl X) (xe X) (xR X) (xs X) (xm X) (xa X) (xb X) (xt X) (xc X) H locs cells slots Z (F0 (xm X) pc ls (st.map (m_v (e_b E))))
def Cx (E : En) (X : Ctx) (own : String) (cc : ByteArray) (nL : Nat) (ret : Option FieldType) (nm : String) (rm : Room) : Prop :=
  (xp X).tables.exec = Jvm.exec ∧ (xc X).code = cc ∧ (xc X).maxLocals = nL ∧ (xs X).vm.findClass own = some (xm X).cls ∧ (∀ w ∈ TW, w.before (xa X) (xs X) = true) ∧ (∀ w ∈ NW, va_Nw w (xs X)) ∧ va_K (e_D E) vwCl (e_tys E) (xs X) ∧ e_b E ≤ (xs X).heap.size ∧ (xt X).locks = false ∧ (xt X).sig.returnType = ret ∧ (xt X).name = nm ∧ xR X = rm
/-! contracts -/
def m_Pc (E : En) (as : List Value) (sh : List Sh) (I : IM) (J : JM) (R : RM) : Array Value → State → Prop := fun v U => v = (as.map (m_v (e_b E))).toArray ∧ m_P E sh I J R U.heap ∧ va_K (e_D E) vwCl (e_tys E) U ∧ ∀ w ∈ NW, va_Nw w U
abbrev CQ : Type := Option Value → List Sh → IM → JM → RM → Prop
def m_Qc (E : En) (Q : CQ) : Array Value → State → Outcome → State → Prop := fun _ st oc t => (∃ (v : Option Value) (sh : List Sh) (I : IM) (J : JM) (R : RM), oc = .returned (v.map (m_v (e_b E))) ∧ Q v sh I J R ∧ m_P E sh I J R t.heap) ∧ va_F (m_A E) st t
def Ct (l : Launch) (E : En) (y : MethodName) (cc : ByteArray) (mL : Nat) (ret : Option FieldType) (fr lo : Nat) (as : List Value) (sh : List Sh) (I : IM) (J : JM) (R : RM) (mc ms : Nat) (Q : CQ) : Prop :=
  Met l y (.code y cc mL ret :: TW) ({ frames := fr, cells := mc, slots := ms, locals := lo } : Room) (m_Pc E as sh I J R) (m_Qc E Q) mc ms (m_A E)
def m_Z (E : En) (X : Ctx) (Q : CQ) (mc ms : Nat) : State → Prop := MQ (xb X) (m_Qc E Q) (xa X) (xs X) mc ms (m_A E)
/-- a fixed answer and a fixed memory -/
def m_ret (v : Option Value) (sh : List Sh) (I : IM) (J : JM) (R : RM) : CQ := fun v' sh' I' J' R' => v' = v ∧ sh' = sh ∧ I' = I ∧ J' = J ∧ R' = R
theorem m_ret_rf {v : Option Value} {sh : List Sh} {I : IM} {J : JM} {R : RM} : m_ret v sh I J R v sh I J R := ⟨rfl, rfl, rfl, rfl, rfl⟩
theorem m_v_cat (b : Nat) (v : Value) : (m_v b v).category = v.category := by cases v <;> rfl
def lvp (as : List Value) : List (Option Value) := as.flatMap (fun v => if v.category = 2 then [some v, none] else [some v])
theorem lvp_len (b : Nat) (as : List Value) : (lg_sl (as.map (m_v b))).length = (lvp as).length := by
  induction as with
  | nil => rfl
  | cons v vs ih =>
    have e1 : lg_sl ((v :: vs).map (m_v b)) = (if (m_v b v).category = 2 then [.val (m_v b v), .second] else [.val (m_v b v)]) ++ lg_sl (vs.map (m_v b)) := rfl
    have e2 : lvp (v :: vs) = (if v.category = 2 then [some v, none] else [some v]) ++ lvp vs := rfl
    rw [e1, e2, m_v_cat, List.length_append, List.length_append, ih]
    split <;> rfl
theorem lvp_args (b : Nat) (as : List Value) : ∀ (off i : Nat) (v : Value), (lvp as)[i]? = some (some v) → (off + i, m_v b v) ∈ lv_args off (as.map (m_v b)) := by
  induction as with
  | nil => intro off i v h; simp [lvp] at h
  | cons w ws ih =>
    intro off i v h
    have e2 : lvp (w :: ws) = (if w.category = 2 then [some w, none] else [some w]) ++ lvp ws := rfl
    rw [e2] at h
    show (off + i, m_v b v) ∈ (off, m_v b w) :: lv_args (if (m_v b w).category = 2 then off + 2 else off + 1) (ws.map (m_v b))
    rw [m_v_cat]
    by_cases hc : w.category = 2
    · rw [if_pos hc] at h ⊢
      match i, h with
      | 0, h => simp at h; subst h; exact List.mem_cons_self
      | 1, h => simp at h
      | i + 2, h =>
        have h' : (lvp ws)[i]? = some (some v) := by simpa using h
        have h2 := ih (off + 2) i v h'
        rw [show off + (i + 2) = off + 2 + i by omega]
        exact List.mem_cons_of_mem _ h2
    · rw [if_neg hc] at h ⊢
      match i, h with
      | 0, h => simp at h; subst h; exact List.mem_cons_self
      | i + 1, h =>
        have h' : (lvp ws)[i]? = some (some v) := by simpa using h
        have h2 := ih (off + 1) i v h'
        rw [show off + (i + 1) = off + 1 + i by omega]
        exact List.mem_cons_of_mem _ h2
theorem Ct.of {l : Launch} {E : En} {y : MethodName} {cc : ByteArray} {mL : Nat} {ret : Option FieldType} {fr lo : Nat} {as : List Value} {sh : List Sh} {I : IM} {J : JM} {R : RM} {mc ms : Nat} {Q : CQ} {lv : List (Option Value)} (hy : plainName y.cls = true) (hn : (lvp as).length ≤ mL) (hlv : lvp as ++ List.replicate (mL - (lvp as).length) none = lv)
    (k : ∀ X : Ctx, xl X = l → Cx E X y.cls cc mL ret y.name ({ frames := fr, cells := mc, slots := ms, locals := lo } : Room) → V E X (m_Z E X Q mc ms) 0 0 sh I J R 0 lv []) : Ct l E y cc mL ret fr lo as sh I J R mc ms Q := by
  refine Met.ofW (cc := cc) (maxL := mL) (ret := ret) (ws' := TW) hy rfl ?_
  intro p e s m args below meth c s₁ B hml hv
  obtain ⟨rfl, hP, hK, hNW⟩ := hv
  have hts0 := atoms_spec (ws := Cond.code y cc mL ret :: TW) B.pre
  have hown : s.vm.findClass y.cls = some m.cls := findClass_of_methodNamed B.named
  have hnm : meth.name = y.name := (name_of_methodNamed B.named B.method).1
  rw [lg_entry_eq]
  have hlen := lvp_len (e_b E) as
  have hl0 := lv_entry (as.map (m_v (e_b E))) (n := mL) (by rw [hlen]; exact hn)
  generalize (lg_sl (as.map (m_v (e_b E))) ++ List.replicate (mL - (lg_sl (as.map (m_v (e_b E)))).length) Slot.unset).toArray = ls at hl0 ⊢
  have hlvl : lv.length = mL := by rw [← hlv, List.length_append, List.length_replicate]; omega
  have hl : lv_has ls lv.length (lvA (e_b E) lv) := by
    rw [hlvl]
    refine ⟨hl0.1, hl0.2.1, fun q hq => ?_⟩
    obtain ⟨v, h1, h2⟩ := lvA_mem.mp hq
    have h3 : (lvp as)[q.1]? = some (some v) := by
      rw [← hlv] at h1
      by_cases hlt : q.1 < (lvp as).length
      · rwa [List.getElem?_append_left hlt] at h1
      · rw [List.getElem?_append_right (by omega), List.getElem?_replicate] at h1
        split at h1
        · cases h1
        · cases h1
    have h4 := lvp_args (e_b E) as 0 q.1 v h3
    rw [Nat.zero_add] at h4
    have h5 := hl0.2.2 _ h4
    rw [h2]
    exact h5
  have hsz : e_b E ≤ s.heap.size := by rw [hP.2]; omega
  exact k (p, l, e, _, s, m, _, below, meth, c) rfl ⟨B.exec, B.bytes, hml, hown, fun w hw => hts0 w (List.mem_cons_of_mem _ hw), hNW, hK, hsz, B.notSynchronized, B.returns, hnm, rfl⟩ s.heap [] ls hP va_S.rf hl
