/-! ===== rows: an instruction each ===== -/
section VR
variable {E : En} {X : Ctx} {own : String} {cc : ByteArray} {nL : Nat} {ret : Option FieldType} {nm : String} {rm : Room} {Z : State → Prop} {cells slots : Nat} {sh : List Sh} {I : IM} {J : JM} {R : RM} {pc : Nat} {lv : List (Option Value)} {st : List Value}
theorem lvA_at {b : Nat} {ls : Array Slot} {n i : Nat} {v : Value} (h : lv_has ls n (lvA b lv)) (hv : lv[i]? = some (some v)) : ls[i]? = some (.val (m_v b v)) := h.2.2 (i, m_v b v) (lvA_mem.mpr ⟨v, hv, rfl⟩)
theorem v_iconst {n : Int} (v : Int32) (C : Cx E X own cc nL ret nm rm) (hd : decode cc pc = .ok (.iconst n, 1)) (hv : Int32.ofInt n = v) (k : V E X Z cells slots sh I J R (pc + 1) lv (.int v :: st)) : V E X Z cells slots sh I J R pc lv st := fun H locs ls hP hS hl => lv_iconst C.1 C.2.1 hd hv (k H locs ls hP hS hl)
theorem v_bipush {n : Int} (v : Int32) (C : Cx E X own cc nL ret nm rm) (hd : decode cc pc = .ok (.bipush n, 2)) (hv : (Int8.ofInt n).toInt32 = v) (k : V E X Z cells slots sh I J R (pc + 2) lv (.int v :: st)) : V E X Z cells slots sh I J R pc lv st := fun H locs ls hP hS hl => lv_bipush C.1 C.2.1 hd hv (k H locs ls hP hS hl)
theorem v_sipush {n : Int} (v : Int32) (C : Cx E X own cc nL ret nm rm) (hd : decode cc pc = .ok (.sipush n, 3)) (hv : (Int16.ofInt n).toInt32 = v) (k : V E X Z cells slots sh I J R (pc + 3) lv (.int v :: st)) : V E X Z cells slots sh I J R pc lv st := fun H locs ls hP hS hl => lv_sipush C.1 C.2.1 hd hv (k H locs ls hP hS hl)
theorem v_lconst {n : Fin 2} (v : Int64) (C : Cx E X own cc nL ret nm rm) (hd : decode cc pc = .ok (.lconst n, 1)) (hv : Int64.ofNat (n : Nat) = v) (k : V E X Z cells slots sh I J R (pc + 1) lv (.long v :: st)) : V E X Z cells slots sh I J R pc lv st := fun H locs ls hP hS hl => lv_lconst C.1 C.2.1 hd hv (k H locs ls hP hS hl)
theorem v_ldc {idx : Nat} (v : Int32) (C : Cx E X own cc nL ret nm rm) (hw : Cond.constant own idx v ∈ TW) (hd : decode cc pc = .ok (.ldc idx, 2)) (k : V E X Z cells slots sh I J R (pc + 2) lv (.int v :: st)) : V E X Z cells slots sh I J R pc lv st := fun H locs ls hP hS hl => lv_ldc C.1 C.2.1 C.2.2.2.1 (C.2.2.2.2.1 _ hw) hd (k H locs ls hP hS hl)
theorem v_ldc2 {idx : Nat} (v : Int64) (C : Cx E X own cc nL ret nm rm) (hw : Cond.constantLong own idx v ∈ TW) (hd : decode cc pc = .ok (.ldc2_w idx, 3)) (k : V E X Z cells slots sh I J R (pc + 3) lv (.long v :: st)) : V E X Z cells slots sh I J R pc lv st := fun H locs ls hP hS hl => lv_ldc2 C.1 C.2.1 C.2.2.2.1 (C.2.2.2.2.1 _ hw) hd (k H locs ls hP hS hl)
theorem v_iload_n {n : Fin 4} {x : Int32} (C : Cx E X own cc nL ret nm rm) (hd : decode cc pc = .ok (.iload_n n, 1)) (hv : lv[(n : Nat)]? = some (some (.int x))) (k : V E X Z cells slots sh I J R (pc + 1) lv (.int x :: st)) : V E X Z cells slots sh I J R pc lv st := fun H locs ls hP hS hl => lv_iload_n C.1 C.2.1 hd rfl (lvA_at hl hv) (k H locs ls hP hS hl)
theorem v_iload {i : Nat} {x : Int32} (C : Cx E X own cc nL ret nm rm) (hd : decode cc pc = .ok (.iload i, 2)) (hv : lv[i]? = some (some (.int x))) (k : V E X Z cells slots sh I J R (pc + 2) lv (.int x :: st)) : V E X Z cells slots sh I J R pc lv st := fun H locs ls hP hS hl => lv_iload C.1 C.2.1 hd (lvA_at hl hv) (k H locs ls hP hS hl)
theorem v_lload_n {n : Fin 4} {x : Int64} (C : Cx E X own cc nL ret nm rm) (hd : decode cc pc = .ok (.lload_n n, 1)) (hv : lv[(n : Nat)]? = some (some (.long x))) (k : V E X Z cells slots sh I J R (pc + 1) lv (.long x :: st)) : V E X Z cells slots sh I J R pc lv st := fun H locs ls hP hS hl => lv_lload_n C.1 C.2.1 hd rfl (lvA_at hl hv) (k H locs ls hP hS hl)
theorem v_lload {i : Nat} {x : Int64} (C : Cx E X own cc nL ret nm rm) (hd : decode cc pc = .ok (.lload i, 2)) (hv : lv[i]? = some (some (.long x))) (k : V E X Z cells slots sh I J R (pc + 2) lv (.long x :: st)) : V E X Z cells slots sh I J R pc lv st := fun H locs ls hP hS hl => lv_lload C.1 C.2.1 hd (lvA_at hl hv) (k H locs ls hP hS hl)
theorem v_aload_n {n : Fin 4} {a : Nat} (C : Cx E X own cc nL ret nm rm) (hd : decode cc pc = .ok (.aload_n n, 1)) (hv : lv[(n : Nat)]? = some (some (.ref a))) (k : V E X Z cells slots sh I J R (pc + 1) lv (.ref a :: st)) : V E X Z cells slots sh I J R pc lv st := fun H locs ls hP hS hl => lv_aload_n C.1 C.2.1 hd rfl (lvA_at hl hv) (k H locs ls hP hS hl)
theorem v_aload {i : Nat} {a : Nat} (C : Cx E X own cc nL ret nm rm) (hd : decode cc pc = .ok (.aload i, 2)) (hv : lv[i]? = some (some (.ref a))) (k : V E X Z cells slots sh I J R (pc + 2) lv (.ref a :: st)) : V E X Z cells slots sh I J R pc lv st := fun H locs ls hP hS hl => lv_aload C.1 C.2.1 hd (lvA_at hl hv) (k H locs ls hP hS hl)
/-- storing into a local; a long below it is no more -/
def lvS (lv : List (Option Value)) (i : Nat) (v : Value) : List (Option Value) := match i with
  | 0 => lv.set 0 (some v)
  | j + 1 => match lv[j]? with
    | some (some (.long _)) => (lv.set (j + 1) (some v)).set j none
    | some (some (.double _)) => (lv.set (j + 1) (some v)).set j none
    | _ => lv.set (j + 1) (some v)
def lvS2 (lv : List (Option Value)) (i : Nat) (v : Value) : List (Option Value) := (lvS lv i v).set (i + 1) none
theorem lvS_len (lv : List (Option Value)) (i : Nat) (v : Value) : (lvS lv i v).length = lv.length := by
  unfold lvS
  split
  · simp
  · split <;> simp
theorem lvS_get {lv : List (Option Value)} {i j : Nat} {v w : Value} (h : (lvS lv i v)[j]? = some (some w)) (hi : i < lv.length) : (j = i ∧ w = v) ∨ (j ≠ i ∧ lv[j]? = some (some w) ∧ ¬ (j + 1 = i ∧ w.category = 2)) := by
  unfold lvS at h
  split at h
  · rename_i i
    by_cases hj : j = 0
    · subst hj
      rw [List.getElem?_set_self hi] at h
      cases h
      exact Or.inl ⟨rfl, rfl⟩
    · rw [List.getElem?_set_ne (Ne.symm hj)] at h
      exact Or.inr ⟨hj, h, by omega⟩
  · rename_i i
    have key : ∀ (h : (lv.set (i + 1) (some v))[j]? = some (some w)), (j = i + 1 ∧ w = v) ∨ (j ≠ i + 1 ∧ lv[j]? = some (some w)) := by
      intro h
      by_cases hj : j = i + 1
      · subst hj
        rw [List.getElem?_set_self hi] at h
        cases h
        exact Or.inl ⟨rfl, rfl⟩
      · rw [List.getElem?_set_ne (Ne.symm hj)] at h
        exact Or.inr ⟨hj, h⟩
    have key2 : ∀ (h : ((lv.set (i + 1) (some v)).set i none)[j]? = some (some w)), (j = i + 1 ∧ w = v) ∨ (j ≠ i + 1 ∧ lv[j]? = some (some w) ∧ ¬ (j + 1 = i + 1 ∧ w.category = 2)) := by
      intro h
      by_cases hj : j = i
      · subst hj
        rw [List.getElem?_set_self (by simp; omega)] at h
        cases h
      · rw [List.getElem?_set_ne (Ne.symm hj)] at h
        rcases key h with h | ⟨h1, h2⟩
        · exact Or.inl h
        · exact Or.inr ⟨h1, h2, by omega⟩
    split at h
    · exact key2 h
    · exact key2 h
    · rename_i hA hB
      rcases key h with h | ⟨h1, h2⟩
      · exact Or.inl h
      · refine Or.inr ⟨h1, h2, ?_⟩
        rintro ⟨h3, h4⟩
        have h5 : j = i := by omega
        subst h5
        cases w with
        | long x => exact hA _ h2
        | double x => exact hB _ h2
        | _ => simp [Value.category] at h4
theorem lvA_store1 {b : Nat} {ls : Array Slot} {i : Nat} {v : Value} (h : lv_has ls lv.length (lvA b lv)) (hi : i < lv.length) (hc : v.category = 1) {ls' : Array Slot} (h' : lv_has ls' lv.length ((i, m_v b v) :: (lvA b lv).filter (fun q => !(q.1 == i) && !(q.1 + 1 == i && q.2.category == 2)))) : lv_has ls' (lvS lv i v).length (lvA b (lvS lv i v)) := by
  rw [lvS_len]
  refine ⟨h'.1, h'.2.1, fun q hq => ?_⟩
  obtain ⟨w, h1, h2⟩ := lvA_mem.mp hq
  rcases lvS_get h1 hi with ⟨h3, h4⟩ | ⟨h3, h4, h5⟩
  · have h6 := h'.2.2 (i, m_v b v) List.mem_cons_self
    rw [h2, h3, h4]
    exact h6
  · refine h'.2.2 q (List.mem_cons_of_mem _ (List.mem_filter.mpr ⟨lvA_mem.mpr ⟨w, h4, h2⟩, ?_⟩))
    have h7 : ¬ (q.1 + 1 = i ∧ q.2.category = 2) := by rw [h2, m_v_cat]; exact h5
    simp only [Bool.and_eq_true, Bool.not_eq_true', beq_eq_false_iff_ne, Bool.and_eq_false_iff]
    exact ⟨h3, by by_cases h8 : q.1 + 1 = i
                  · exact Or.inr (fun h9 => h7 ⟨h8, h9⟩)
                  · exact Or.inl h8⟩
theorem lvA_store2 {b : Nat} {ls : Array Slot} {i : Nat} {v : Value} (h : lv_has ls lv.length (lvA b lv)) (hi : i + 1 < lv.length) (hc : v.category = 2) {ls' : Array Slot} (h' : lv_has ls' lv.length ((i, m_v b v) :: (lvA b lv).filter (fun q => !(q.1 == i) && (!(q.1 == i + 1) && !(q.1 + 1 == i && q.2.category == 2))))) : lv_has ls' (lvS2 lv i v).length (lvA b (lvS2 lv i v)) := by
  have hl2 : (lvS2 lv i v).length = lv.length := by unfold lvS2; rw [List.length_set, lvS_len]
  rw [hl2]
  refine ⟨h'.1, h'.2.1, fun q hq => ?_⟩
  obtain ⟨w, h1, h2⟩ := lvA_mem.mp hq
  unfold lvS2 at h1
  have hne : q.1 ≠ i + 1 := by
    intro hq1
    rw [hq1, List.getElem?_set_self (by rw [lvS_len]; exact hi)] at h1
    cases h1
  rw [List.getElem?_set_ne (Ne.symm hne)] at h1
  rcases lvS_get h1 (by omega) with ⟨h3, h4⟩ | ⟨h3, h4, h5⟩
  · have h6 := h'.2.2 (i, m_v b v) List.mem_cons_self
    rw [h2, h3, h4]
    exact h6
  · refine h'.2.2 q (List.mem_cons_of_mem _ (List.mem_filter.mpr ⟨lvA_mem.mpr ⟨w, h4, h2⟩, ?_⟩))
    have h7 : ¬ (q.1 + 1 = i ∧ q.2.category = 2) := by rw [h2, m_v_cat]; exact h5
    simp only [Bool.and_eq_true, Bool.not_eq_true', beq_eq_false_iff_ne, Bool.and_eq_false_iff]
    exact ⟨h3, hne, by by_cases h8 : q.1 + 1 = i
                       · exact Or.inr (fun h9 => h7 ⟨h8, h9⟩)
                       · exact Or.inl h8⟩
def noL (lv : List (Option Value)) (i : Nat) : Bool := match i with
  | 0 => true
  | j + 1 => match lv[j]? with
    | some (some (.long _)) => false
    | some (some (.double _)) => false
    | _ => true
theorem lvS_no {lv : List (Option Value)} {i : Nat} {v : Value} (h : noL lv i = true) : lvS lv i v = lv.set i (some v) := by
  unfold noL at h
  unfold lvS
  split at h
  · rfl
  · split at h
    · cases h
    · cases h
    · rename_i hA hB
      dsimp only
theorem v_istore_n {n : Fin 4} {x : Int32} (C : Cx E X own cc nL ret nm rm) (hd : decode cc pc = .ok (.istore_n n, 1)) (hn : (n : Nat) < lv.length) (hb : noL lv (n : Nat) = true) (k : V E X Z cells slots sh I J R (pc + 1) (lv.set (n : Nat) (some (.int x))) st) : V E X Z cells slots sh I J R pc lv (.int x :: st) := by
  intro H locs ls hP hS hl
  refine lv_istore_n C.1 C.2.1 hd rfl hl hn rfl (fun ls' h' => ?_)
  refine k H locs ls' hP hS ?_
  rw [← lvS_no hb]
  exact lvA_store1 hl hn rfl h'
theorem v_istore {i : Nat} {x : Int32} (C : Cx E X own cc nL ret nm rm) (hd : decode cc pc = .ok (.istore i, 2)) (hn : i < lv.length) (hb : noL lv i = true) (k : V E X Z cells slots sh I J R (pc + 2) (lv.set i (some (.int x))) st) : V E X Z cells slots sh I J R pc lv (.int x :: st) := by
  intro H locs ls hP hS hl
  refine lv_istore C.1 C.2.1 hd hl hn rfl (fun ls' h' => ?_)
  refine k H locs ls' hP hS ?_
  rw [← lvS_no hb]
  exact lvA_store1 hl hn rfl h'
theorem v_astore_n {n : Fin 4} {a : Nat} (C : Cx E X own cc nL ret nm rm) (hd : decode cc pc = .ok (.astore_n n, 1)) (hn : (n : Nat) < lv.length) (hb : noL lv (n : Nat) = true) (k : V E X Z cells slots sh I J R (pc + 1) (lv.set (n : Nat) (some (.ref a))) st) : V E X Z cells slots sh I J R pc lv (.ref a :: st) := by
  intro H locs ls hP hS hl
  refine lv_astore_n C.1 C.2.1 hd rfl hl hn rfl (fun ls' h' => ?_)
  refine k H locs ls' hP hS ?_
  rw [← lvS_no hb]
  exact lvA_store1 (v := .ref a) hl hn rfl h'
theorem v_astore {i : Nat} {a : Nat} (C : Cx E X own cc nL ret nm rm) (hd : decode cc pc = .ok (.astore i, 2)) (hn : i < lv.length) (hb : noL lv i = true) (k : V E X Z cells slots sh I J R (pc + 2) (lv.set i (some (.ref a))) st) : V E X Z cells slots sh I J R pc lv (.ref a :: st) := by
  intro H locs ls hP hS hl
  refine lv_astore C.1 C.2.1 hd hl hn rfl (fun ls' h' => ?_)
  refine k H locs ls' hP hS ?_
  rw [← lvS_no hb]
  exact lvA_store1 (v := .ref a) hl hn rfl h'
theorem v_lstore {i : Nat} {x : Int64} (C : Cx E X own cc nL ret nm rm) (hd : decode cc pc = .ok (.lstore i, 2)) (hn : i + 1 < lv.length) (hb : noL lv i = true) (k : V E X Z cells slots sh I J R (pc + 2) ((lv.set i (some (.long x))).set (i + 1) none) st) : V E X Z cells slots sh I J R pc lv (.long x :: st) := by
  intro H locs ls hP hS hl
  refine lv_lstore C.1 C.2.1 hd hl hn rfl (fun ls' h' => ?_)
  refine k H locs ls' hP hS ?_
  rw [← lvS_no hb]
  exact lvA_store2 hl hn rfl h'
theorem v_iinc {i : Nat} {n : Int} {x : Int32} (v : Int32) (C : Cx E X own cc nL ret nm rm) (hd : decode cc pc = .ok (.iinc i n, 3)) (hx : lv[i]? = some (some (.int x))) (hv : x + Int32.ofInt n = v) (hn : i < lv.length) (hb : noL lv i = true) (k : V E X Z cells slots sh I J R (pc + 3) (lv.set i (some (.int v))) st) : V E X Z cells slots sh I J R pc lv st := by
  intro H locs ls hP hS hl
  obtain ⟨q, hq⟩ := List.getElem?_of_mem (lvA_mem.mpr ⟨_, hx, rfl⟩ : ((i, m_v (e_b E) (.int x)) : Nat × Value) ∈ lvA (e_b E) lv)
  refine lv_iinc (v := v) C.1 C.2.1 hd hl (k := q) hq hv hn rfl (fun ls' h' => ?_)
  refine k H locs ls' hP hS ?_
  rw [← lvS_no hb]
  exact lvA_store1 (v := .int v) hl hn rfl h'
/-- fewer locals -/
theorem v_weak (lv' : List (Option Value)) (hlen : lv'.length = lv.length) (h : ∀ (i : Nat) (v : Value), lv'[i]? = some (some v) → lv[i]? = some (some v)) (k : V E X Z cells slots sh I J R pc lv' st) : V E X Z cells slots sh I J R pc lv st := by
  intro H locs ls hP hS hl
  refine k H locs ls hP hS ?_
  rw [hlen]
  refine ⟨hl.1, hl.2.1, fun q hq => ?_⟩
  obtain ⟨v, h1, h2⟩ := lvA_mem.mp hq
  exact hl.2.2 q (lvA_mem.mpr ⟨v, h _ _ h1, h2⟩)
theorem v_iadd {x y : Int32} (C : Cx E X own cc nL ret nm rm) (hd : decode cc pc = .ok (.iadd, 1)) (k : V E X Z cells slots sh I J R (pc + 1) lv (.int (x + y) :: st)) : V E X Z cells slots sh I J R pc lv (.int y :: .int x :: st) := fun H locs ls hP hS hl => lv_iadd C.1 C.2.1 hd (k H locs ls hP hS hl)
theorem v_isub {x y : Int32} (C : Cx E X own cc nL ret nm rm) (hd : decode cc pc = .ok (.isub, 1)) (k : V E X Z cells slots sh I J R (pc + 1) lv (.int (x - y) :: st)) : V E X Z cells slots sh I J R pc lv (.int y :: .int x :: st) := fun H locs ls hP hS hl => lv_isub C.1 C.2.1 hd (k H locs ls hP hS hl)
theorem v_imul {x y : Int32} (C : Cx E X own cc nL ret nm rm) (hd : decode cc pc = .ok (.imul, 1)) (k : V E X Z cells slots sh I J R (pc + 1) lv (.int (x * y) :: st)) : V E X Z cells slots sh I J R pc lv (.int y :: .int x :: st) := fun H locs ls hP hS hl => lv_imul C.1 C.2.1 hd (k H locs ls hP hS hl)
theorem v_iand {x y : Int32} (C : Cx E X own cc nL ret nm rm) (hd : decode cc pc = .ok (.iand, 1)) (k : V E X Z cells slots sh I J R (pc + 1) lv (.int (x &&& y) :: st)) : V E X Z cells slots sh I J R pc lv (.int y :: .int x :: st) := fun H locs ls hP hS hl => lv_iand C.1 C.2.1 hd (k H locs ls hP hS hl)
theorem v_idiv {x y : Int32} (C : Cx E X own cc nL ret nm rm) (hd : decode cc pc = .ok (.idiv, 1)) (hne : ¬ y = 0) (k : V E X Z cells slots sh I J R (pc + 1) lv (.int (x / y) :: st)) : V E X Z cells slots sh I J R pc lv (.int y :: .int x :: st) := fun H locs ls hP hS hl => lv_idiv C.1 C.2.1 hd hne (k H locs ls hP hS hl)
theorem v_irem {x y : Int32} (C : Cx E X own cc nL ret nm rm) (hd : decode cc pc = .ok (.irem, 1)) (hne : ¬ y = 0) (k : V E X Z cells slots sh I J R (pc + 1) lv (.int (x - x / y * y) :: st)) : V E X Z cells slots sh I J R pc lv (.int y :: .int x :: st) := fun H locs ls hP hS hl => lv_irem C.1 C.2.1 hd hne (k H locs ls hP hS hl)
theorem v_ishr {x y : Int32} (C : Cx E X own cc nL ret nm rm) (hd : decode cc pc = .ok (.ishr, 1)) (k : V E X Z cells slots sh I J R (pc + 1) lv (.int (x >>> (y &&& 31)) :: st)) : V E X Z cells slots sh I J R pc lv (.int y :: .int x :: st) := fun H locs ls hP hS hl => lv_ishr C.1 C.2.1 hd (k H locs ls hP hS hl)
theorem v_iushr {x y : Int32} (C : Cx E X own cc nL ret nm rm) (hd : decode cc pc = .ok (.iushr, 1)) (k : V E X Z cells slots sh I J R (pc + 1) lv (.int (x.toUInt32 >>> (y.toUInt32 &&& Int32.toUInt32 31)).toInt32 :: st)) : V E X Z cells slots sh I J R pc lv (.int y :: .int x :: st) := fun H locs ls hP hS hl => lv_iushr C.1 C.2.1 hd rfl (k H locs ls hP hS hl)
theorem v_i2b {x : Int32} (C : Cx E X own cc nL ret nm rm) (hd : decode cc pc = .ok (.i2b, 1)) (k : V E X Z cells slots sh I J R (pc + 1) lv (.int x.toInt8.toInt32 :: st)) : V E X Z cells slots sh I J R pc lv (.int x :: st) := fun H locs ls hP hS hl => lv_i2b C.1 C.2.1 hd rfl (k H locs ls hP hS hl)
theorem v_i2l {x : Int32} (C : Cx E X own cc nL ret nm rm) (hd : decode cc pc = .ok (.i2l, 1)) (k : V E X Z cells slots sh I J R (pc + 1) lv (.long x.toInt64 :: st)) : V E X Z cells slots sh I J R pc lv (.int x :: st) := fun H locs ls hP hS hl => lv_i2l C.1 C.2.1 hd rfl (k H locs ls hP hS hl)
theorem v_l2i {x : Int64} (C : Cx E X own cc nL ret nm rm) (hd : decode cc pc = .ok (.l2i, 1)) (k : V E X Z cells slots sh I J R (pc + 1) lv (.int x.toInt32 :: st)) : V E X Z cells slots sh I J R pc lv (.long x :: st) := fun H locs ls hP hS hl => lv_l2i C.1 C.2.1 hd rfl (k H locs ls hP hS hl)
theorem v_ladd {x y : Int64} (C : Cx E X own cc nL ret nm rm) (hd : decode cc pc = .ok (.ladd, 1)) (k : V E X Z cells slots sh I J R (pc + 1) lv (.long (x + y) :: st)) : V E X Z cells slots sh I J R pc lv (.long y :: .long x :: st) := fun H locs ls hP hS hl => lv_ladd C.1 C.2.1 hd (k H locs ls hP hS hl)
theorem v_lsub {x y : Int64} (C : Cx E X own cc nL ret nm rm) (hd : decode cc pc = .ok (.lsub, 1)) (k : V E X Z cells slots sh I J R (pc + 1) lv (.long (x - y) :: st)) : V E X Z cells slots sh I J R pc lv (.long y :: .long x :: st) := fun H locs ls hP hS hl => lv_lsub C.1 C.2.1 hd (k H locs ls hP hS hl)
theorem v_lmul {x y : Int64} (C : Cx E X own cc nL ret nm rm) (hd : decode cc pc = .ok (.lmul, 1)) (k : V E X Z cells slots sh I J R (pc + 1) lv (.long (x * y) :: st)) : V E X Z cells slots sh I J R pc lv (.long y :: .long x :: st) := fun H locs ls hP hS hl => lv_lmul C.1 C.2.1 hd (k H locs ls hP hS hl)
theorem v_ldiv {x y : Int64} (C : Cx E X own cc nL ret nm rm) (hd : decode cc pc = .ok (.ldiv, 1)) (hne : ¬ y = 0) (k : V E X Z cells slots sh I J R (pc + 1) lv (.long (x / y) :: st)) : V E X Z cells slots sh I J R pc lv (.long y :: .long x :: st) := fun H locs ls hP hS hl => lv_ldiv C.1 C.2.1 hd hne (k H locs ls hP hS hl)
theorem v_lshl {x : Int64} {y : Int32} (C : Cx E X own cc nL ret nm rm) (hd : decode cc pc = .ok (.lshl, 1)) (k : V E X Z cells slots sh I J R (pc + 1) lv (.long (x <<< (y.toInt64 &&& 63)) :: st)) : V E X Z cells slots sh I J R pc lv (.int y :: .long x :: st) := fun H locs ls hP hS hl => lv_lshl C.1 C.2.1 hd rfl (k H locs ls hP hS hl)
theorem v_lshr {x : Int64} {y : Int32} (C : Cx E X own cc nL ret nm rm) (hd : decode cc pc = .ok (.lshr, 1)) (k : V E X Z cells slots sh I J R (pc + 1) lv (.long (x >>> (y.toInt64 &&& 63)) :: st)) : V E X Z cells slots sh I J R pc lv (.int y :: .long x :: st) := fun H locs ls hP hS hl => lv_lshr C.1 C.2.1 hd rfl (k H locs ls hP hS hl)
theorem v_lcmp {x y : Int64} (C : Cx E X own cc nL ret nm rm) (hd : decode cc pc = .ok (.lcmp, 1)) (k : V E X Z cells slots sh I J R (pc + 1) lv (.int (lg_cmp x y) :: st)) : V E X Z cells slots sh I J R pc lv (.long y :: .long x :: st) := fun H locs ls hP hS hl => W.lcmp C.1 C.2.1 hd (k H locs ls hP hS hl)
theorem v_dupi {x : Int32} (C : Cx E X own cc nL ret nm rm) (hd : decode cc pc = .ok (.dup, 1)) (k : V E X Z cells slots sh I J R (pc + 1) lv (.int x :: .int x :: st)) : V E X Z cells slots sh I J R pc lv (.int x :: st) := fun H locs ls hP hS hl => lv_dup (va := .int x) C.1 C.2.1 hd rfl (k H locs ls hP hS hl)
theorem v_dupr {a : Nat} (C : Cx E X own cc nL ret nm rm) (hd : decode cc pc = .ok (.dup, 1)) (k : V E X Z cells slots sh I J R (pc + 1) lv (.ref a :: .ref a :: st)) : V E X Z cells slots sh I J R pc lv (.ref a :: st) := fun H locs ls hP hS hl => lv_dup (va := .ref (e_b E + a)) C.1 C.2.1 hd rfl (k H locs ls hP hS hl)
theorem v_popi {x : Int32} (C : Cx E X own cc nL ret nm rm) (hd : decode cc pc = .ok (.pop, 1)) (k : V E X Z cells slots sh I J R (pc + 1) lv st) : V E X Z cells slots sh I J R pc lv (.int x :: st) := fun H locs ls hP hS hl => lv_pop (va := .int x) C.1 C.2.1 hd rfl (k H locs ls hP hS hl)
theorem v_dup2ir {x : Int32} {a : Nat} (C : Cx E X own cc nL ret nm rm) (hd : decode cc pc = .ok (.dup2, 1)) (k : V E X Z cells slots sh I J R (pc + 1) lv (.int x :: .ref a :: .int x :: .ref a :: st)) : V E X Z cells slots sh I J R pc lv (.int x :: .ref a :: st) := fun H locs ls hP hS hl => lv_dup2_11 (va := .int x) (vb := .ref (e_b E + a)) C.1 C.2.1 hd rfl rfl (k H locs ls hP hS hl)
theorem v_goto {off : Int} (tgt : Nat) (C : Cx E X own cc nL ret nm rm) (hd : decode cc pc = .ok (.goto off, 3)) (ht : (pc : Int) + off = (tgt : Int)) (k : V E X Z cells slots sh I J R tgt lv st) : V E X Z cells slots sh I J R pc lv st := fun H locs ls hP hS hl => lv_goto C.1 C.2.1 hd ht (k H locs ls hP hS hl)
theorem v_if_eq {x : Int32} {off : Int} (tgt : Nat) (C : Cx E X own cc nL ret nm rm) (hd : decode cc pc = .ok (.ifCond .eq off, 3)) (ht : (pc : Int) + off = (tgt : Int)) (kt : x = 0 → V E X Z cells slots sh I J R tgt lv st) (kf : ¬ x = 0 → V E X Z cells slots sh I J R (pc + 3) lv st) : V E X Z cells slots sh I J R pc lv (.int x :: st) := fun H locs ls hP hS hl => lv_if_eq C.1 C.2.1 hd ht (fun h => kt h H locs ls hP hS hl) (fun h => kf h H locs ls hP hS hl)
theorem v_icmp_eq {x y : Int32} {off : Int} (tgt : Nat) (C : Cx E X own cc nL ret nm rm) (hd : decode cc pc = .ok (.if_icmp .eq off, 3)) (ht : (pc : Int) + off = (tgt : Int)) (kt : x = y → V E X Z cells slots sh I J R tgt lv st) (kf : ¬ x = y → V E X Z cells slots sh I J R (pc + 3) lv st) : V E X Z cells slots sh I J R pc lv (.int y :: .int x :: st) := fun H locs ls hP hS hl => lv_icmp_eq C.1 C.2.1 hd ht (fun h => kt h H locs ls hP hS hl) (fun h => kf h H locs ls hP hS hl)
theorem v_if_ne {x : Int32} {off : Int} (tgt : Nat) (C : Cx E X own cc nL ret nm rm) (hd : decode cc pc = .ok (.ifCond .ne off, 3)) (ht : (pc : Int) + off = (tgt : Int)) (kt : ¬ x = 0 → V E X Z cells slots sh I J R tgt lv st) (kf : x = 0 → V E X Z cells slots sh I J R (pc + 3) lv st) : V E X Z cells slots sh I J R pc lv (.int x :: st) := fun H locs ls hP hS hl => lv_if_ne C.1 C.2.1 hd ht (fun h => kt h H locs ls hP hS hl) (fun h => kf h H locs ls hP hS hl)
theorem v_icmp_ne {x y : Int32} {off : Int} (tgt : Nat) (C : Cx E X own cc nL ret nm rm) (hd : decode cc pc = .ok (.if_icmp .ne off, 3)) (ht : (pc : Int) + off = (tgt : Int)) (kt : ¬ x = y → V E X Z cells slots sh I J R tgt lv st) (kf : x = y → V E X Z cells slots sh I J R (pc + 3) lv st) : V E X Z cells slots sh I J R pc lv (.int y :: .int x :: st) := fun H locs ls hP hS hl => lv_icmp_ne C.1 C.2.1 hd ht (fun h => kt h H locs ls hP hS hl) (fun h => kf h H locs ls hP hS hl)
theorem v_if_lt {x : Int32} {off : Int} (tgt : Nat) (C : Cx E X own cc nL ret nm rm) (hd : decode cc pc = .ok (.ifCond .lt off, 3)) (ht : (pc : Int) + off = (tgt : Int)) (kt : x < 0 → V E X Z cells slots sh I J R tgt lv st) (kf : ¬ x < 0 → V E X Z cells slots sh I J R (pc + 3) lv st) : V E X Z cells slots sh I J R pc lv (.int x :: st) := fun H locs ls hP hS hl => lv_if_lt C.1 C.2.1 hd ht (fun h => kt h H locs ls hP hS hl) (fun h => kf h H locs ls hP hS hl)
theorem v_icmp_lt {x y : Int32} {off : Int} (tgt : Nat) (C : Cx E X own cc nL ret nm rm) (hd : decode cc pc = .ok (.if_icmp .lt off, 3)) (ht : (pc : Int) + off = (tgt : Int)) (kt : x < y → V E X Z cells slots sh I J R tgt lv st) (kf : ¬ x < y → V E X Z cells slots sh I J R (pc + 3) lv st) : V E X Z cells slots sh I J R pc lv (.int y :: .int x :: st) := fun H locs ls hP hS hl => lv_icmp_lt C.1 C.2.1 hd ht (fun h => kt h H locs ls hP hS hl) (fun h => kf h H locs ls hP hS hl)
theorem v_if_ge {x : Int32} {off : Int} (tgt : Nat) (C : Cx E X own cc nL ret nm rm) (hd : decode cc pc = .ok (.ifCond .ge off, 3)) (ht : (pc : Int) + off = (tgt : Int)) (kt : 0 ≤ x → V E X Z cells slots sh I J R tgt lv st) (kf : ¬ 0 ≤ x → V E X Z cells slots sh I J R (pc + 3) lv st) : V E X Z cells slots sh I J R pc lv (.int x :: st) := fun H locs ls hP hS hl => lv_if_ge C.1 C.2.1 hd ht (fun h => kt h H locs ls hP hS hl) (fun h => kf h H locs ls hP hS hl)
theorem v_icmp_ge {x y : Int32} {off : Int} (tgt : Nat) (C : Cx E X own cc nL ret nm rm) (hd : decode cc pc = .ok (.if_icmp .ge off, 3)) (ht : (pc : Int) + off = (tgt : Int)) (kt : y ≤ x → V E X Z cells slots sh I J R tgt lv st) (kf : ¬ y ≤ x → V E X Z cells slots sh I J R (pc + 3) lv st) : V E X Z cells slots sh I J R pc lv (.int y :: .int x :: st) := fun H locs ls hP hS hl => lv_icmp_ge C.1 C.2.1 hd ht (fun h => kt h H locs ls hP hS hl) (fun h => kf h H locs ls hP hS hl)
theorem v_if_gt {x : Int32} {off : Int} (tgt : Nat) (C : Cx E X own cc nL ret nm rm) (hd : decode cc pc = .ok (.ifCond .gt off, 3)) (ht : (pc : Int) + off = (tgt : Int)) (kt : 0 < x → V E X Z cells slots sh I J R tgt lv st) (kf : ¬ 0 < x → V E X Z cells slots sh I J R (pc + 3) lv st) : V E X Z cells slots sh I J R pc lv (.int x :: st) := fun H locs ls hP hS hl => lv_if_gt C.1 C.2.1 hd ht (fun h => kt h H locs ls hP hS hl) (fun h => kf h H locs ls hP hS hl)
theorem v_icmp_gt {x y : Int32} {off : Int} (tgt : Nat) (C : Cx E X own cc nL ret nm rm) (hd : decode cc pc = .ok (.if_icmp .gt off, 3)) (ht : (pc : Int) + off = (tgt : Int)) (kt : y < x → V E X Z cells slots sh I J R tgt lv st) (kf : ¬ y < x → V E X Z cells slots sh I J R (pc + 3) lv st) : V E X Z cells slots sh I J R pc lv (.int y :: .int x :: st) := fun H locs ls hP hS hl => lv_icmp_gt C.1 C.2.1 hd ht (fun h => kt h H locs ls hP hS hl) (fun h => kf h H locs ls hP hS hl)
theorem v_if_le {x : Int32} {off : Int} (tgt : Nat) (C : Cx E X own cc nL ret nm rm) (hd : decode cc pc = .ok (.ifCond .le off, 3)) (ht : (pc : Int) + off = (tgt : Int)) (kt : x ≤ 0 → V E X Z cells slots sh I J R tgt lv st) (kf : ¬ x ≤ 0 → V E X Z cells slots sh I J R (pc + 3) lv st) : V E X Z cells slots sh I J R pc lv (.int x :: st) := fun H locs ls hP hS hl => lv_if_le C.1 C.2.1 hd ht (fun h => kt h H locs ls hP hS hl) (fun h => kf h H locs ls hP hS hl)
theorem v_icmp_le {x y : Int32} {off : Int} (tgt : Nat) (C : Cx E X own cc nL ret nm rm) (hd : decode cc pc = .ok (.if_icmp .le off, 3)) (ht : (pc : Int) + off = (tgt : Int)) (kt : x ≤ y → V E X Z cells slots sh I J R tgt lv st) (kf : ¬ x ≤ y → V E X Z cells slots sh I J R (pc + 3) lv st) : V E X Z cells slots sh I J R pc lv (.int y :: .int x :: st) := fun H locs ls hP hS hl => lv_icmp_le C.1 C.2.1 hd ht (fun h => kt h H locs ls hP hS hl) (fun h => kf h H locs ls hP hS hl)
end VR
