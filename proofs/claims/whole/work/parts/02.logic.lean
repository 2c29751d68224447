/-! A LOGIC OVER THE WALK. gv_G: from this pc with these locals, stack and cells the method goes on to its end. References are places in the list of cells (below 1000) or one of four arrays that nobody writes (1000 ..). -/
abbrev gv_MR : Type := MethodName × ByteArray × Nat × Option FieldType × Nat × Nat
abbrev gv_E : Type := Launch × va_G × (Nat → ClassId) × Nat × (Nat → Nat) × Nat × (Nat → Int32)
def gv_as (ε : gv_E) (k : Nat) : Nat := if k < 1000 then ε.2.2.2.1 + k else ε.2.2.2.2.1 (k - 1000)
def gv_v (ε : gv_E) : Value → Value
  | .ref k => .ref (gv_as ε k)
  | v => v
def gv_e (ε : gv_E) : va_E → va_E
  | .inl (k, n, .inr (.inr (.inr (.inr f)))) => .inl (ε.2.2.1 k, n, .inr (.inr (.inr (.inr (fun j => (f j).map (gv_as ε))))))
  | .inl (k, x) => .inl (ε.2.2.1 k, x)
  | .inr (c, fs) => .inr (c, fs.map (gv_v ε))
def gv_w (ε : gv_E) (sw : List va_E) : va_W := sw.mapIdx (fun k e => (gv_as ε k, gv_e ε e))
def gv_A (ε : gv_E) : Nat → Prop := fun q => ε.2.2.2.1 ≤ q
def gv_tys (ε : gv_E) : List (ClassId × FieldType) := [(ε.2.2.1 0, .int), (ε.2.2.1 1, .boolean), (ε.2.2.1 2, .object RX4)]
def gv_t3 (a b c : Int32) : Nat → Int32 := fun j => match j with
  | 0 => a
  | 1 => b
  | _ => c
/-- the four arrays that nobody writes -/
def gv_x (ε : gv_E) : Nat → Nat × (Nat → Int32) := fun j => match j with
  | 0 => (3, gv_t3 2 1 12)
  | 1 => (3, gv_t3 0 0 1)
  | 2 => (3, gv_t3 4 9 72)
  | _ => (ε.2.2.2.2.2.1, ε.2.2.2.2.2.2)
def gv_W : List Cond := lw_tbl.filter goodWord
def gv_nm (j : Nat) : String := match j with
  | 0 => "AT_FIRST"
  | 1 => "LEAST"
  | _ => "GREATEST"
/-- what holds of the surroundings at a method's entry -/
def gv_X (ε : gv_E) (s : State) : Prop :=
  va_K ε.2.1 vwCl (gv_tys ε) s ∧ (∀ a i x h, Cond.methodLinkNest a i x h ∈ lw_tbl → va_Nw (.methodLinkNest a i x h) s) ∧ (∀ a i b n d h, Cond.fieldLinkNest a i b n d h ∈ lw_tbl → va_Nw (.fieldLinkNest a i b n d h) s) ∧ va_AO RX4 s ∧
  (∀ j, j < 3 → va_Z RX7 (gv_nm j) "[I" (.ref (ε.2.2.2.2.1 j)) (gv_A ε) s s.heap) ∧ ∀ j, j < 4 → va_T .int (ε.2.2.2.2.1 j) (gv_x ε j).1 (fun i => .int ((gv_x ε j).2 i)) (gv_A ε) s s.heap
theorem gv_X.moved {ε : gv_E} {s U : State} (hW : s.WarmedH U.vm) (hk : ∀ a : Nat, a < s.heap.size → ¬ gv_A ε a → U.heap[a]? = s.heap[a]?) (h : gv_X ε s) : gv_X ε U := by
  obtain ⟨h1, h2, h3, h4, h5, h6⟩ := h
  refine ⟨va_K.moved hW.alike h1, fun a i x h q => va_Nw.warmM hW (h2 a i x h q), fun a i b n d h q => va_Nw.warmF hW (h3 a i b n d h q), va_AO.moved hW.alike h4, fun j hj => ?_, fun j hj => ?_⟩
  · exact va_Z.kept (va_Z.moved hW.alike (h5 j hj)) hk
  · exact va_T.kept (va_T.moved hW.alike (h6 j hj)) hk
theorem gv_X.blind {ε : gv_E} {U : State} {g : JFrame} {mk : MethodId} {a : Array Value} (h : gv_X ε U) : gv_X ε (U.calling g mk a) := by
  obtain ⟨h1, h2, h3, h4, h5, h6⟩ := h
  have e : U.vm.Alike (U.calling g mk a).vm := Vm.Alike.refl U.vm
  refine ⟨va_K.moved e h1, fun a i x h q => va_Nw.same rfl rfl (h2 a i x h q), fun a i b n d h q => va_Nw.same rfl rfl (h3 a i b n d h q), va_AO.moved e h4, fun j hj => ?_, fun j hj => ?_⟩
  · exact va_Z.kept (va_Z.moved e (h5 j hj)) (fun _ _ _ => rfl)
  · exact va_T.kept (va_T.moved e (h6 j hj)) (fun _ _ _ => rfl)
/-! the locals: a list by slots -/
def gv_h (ε : gv_E) (L : List (Option Value)) (i : Nat) : Option (Nat × Value) := match L[i]? with
  | some (some v) => if v.category = 2 ∧ L[i + 1]? ≠ some none then none else some (i, gv_v ε v)
  | _ => none
def gv_l (ε : gv_E) (L : List (Option Value)) : List (Nat × Value) := (List.range L.length).filterMap (gv_h ε L)
theorem gv_cat (ε : gv_E) (v : Value) : (gv_v ε v).category = v.category := by cases v <;> rfl
theorem gv_l_mem {ε : gv_E} {L : List (Option Value)} {q : Nat × Value} : q ∈ gv_l ε L ↔ ∃ v, L[q.1]? = some (some v) ∧ q.2 = gv_v ε v ∧ ¬ (v.category = 2 ∧ L[q.1 + 1]? ≠ some none) := by
  unfold gv_l
  rw [List.mem_filterMap]
  constructor
  · rintro ⟨i, -, hi⟩
    unfold gv_h at hi
    split at hi
    next v hv =>
      split at hi
      next => cases hi
      next hc =>
        cases hi
        exact ⟨v, hv, rfl, hc⟩
    next => cases hi
  · rintro ⟨v, hv, e, hc⟩
    refine ⟨q.1, ?_, ?_⟩
    · rw [List.mem_range]
      exact (List.getElem?_eq_some_iff.mp hv).1
    · unfold gv_h
      rw [hv]
      show (if v.category = 2 ∧ L[q.1 + 1]? ≠ some none then none else some (q.1, gv_v ε v)) = some q
      rw [if_neg hc, ← e]
def gv_has (ε : gv_E) (ls : Array Slot) (n : Nat) (L : List (Option Value)) : Prop := lv_has ls n (gv_l ε L) ∧ L.length = n
theorem gv_has.at1 {ε : gv_E} {ls : Array Slot} {n : Nat} {L : List (Option Value)} (h : gv_has ε ls n L) {i : Nat} {v : Value} (hv : L[i]? = some (some v)) (hc : v.category = 1) : ls[i]? = some (.val (gv_v ε v)) :=
  h.1.2.2 (i, gv_v ε v) (gv_l_mem.mpr ⟨v, hv, rfl, fun q => by rw [hc] at q; exact absurd q.1 (by decide)⟩)
theorem gv_has.at2 {ε : gv_E} {ls : Array Slot} {n : Nat} {L : List (Option Value)} (h : gv_has ε ls n L) {i : Nat} {v : Value} (hv : L[i]? = some (some v)) (hc : L[i + 1]? = some none) : ls[i]? = some (.val (gv_v ε v)) :=
  h.1.2.2 (i, gv_v ε v) (gv_l_mem.mpr ⟨v, hv, rfl, fun q => q.2 hc⟩)
theorem gv_has.store1 {ε : gv_E} {ls' : Array Slot} {n : Nat} {L : List (Option Value)} {i : Nat} {v : Value} (hL : L.length = n) (hi : i < n) (hc : v.category = 1) (h : lv_has ls' n ((i, gv_v ε v) :: (gv_l ε L).filter (fun q => !(q.1 == i) && !(q.1 + 1 == i && q.2.category == 2)))) : gv_has ε ls' n (L.set i (some v)) := by
  refine ⟨⟨h.1, h.2.1, fun q hq => h.2.2 q ?_⟩, by rw [List.length_set]; exact hL⟩
  obtain ⟨w, h1, h2, h3⟩ := gv_l_mem.mp hq
  rw [List.getElem?_set] at h1
  by_cases e : i = q.1
  · rw [if_pos e, if_pos (by omega)] at h1
    have e2 : v = w := by simpa using h1
    subst e2
    rw [show q = (i, gv_v ε v) from Prod.ext e.symm h2]
    exact List.mem_cons_self
  · rw [if_neg e] at h1
    refine List.mem_cons_of_mem _ (List.mem_filter.mpr ⟨gv_l_mem.mpr ⟨w, h1, h2, ?_⟩, ?_⟩)
    · intro z
      refine h3 ⟨z.1, ?_⟩
      rw [List.getElem?_set]
      by_cases e3 : i = q.1 + 1
      · rw [if_pos e3, if_pos (by omega)]
        simp
      · rw [if_neg e3]
        exact z.2
    · rw [h2, gv_cat]
      by_cases e3 : q.1 + 1 = i
      · have : ¬ w.category = 2 := fun z => h3 ⟨z, by rw [List.getElem?_set, if_pos e3.symm, if_pos (by omega)]; simp⟩
        simp [this]
        omega
      · simp [e3]
        omega
theorem gv_has.store2 {ε : gv_E} {ls' : Array Slot} {n : Nat} {L : List (Option Value)} {i : Nat} {v : Value} (hL : L.length = n) (hi : i + 1 < n) (h : lv_has ls' n ((i, gv_v ε v) :: (gv_l ε L).filter (fun q => !(q.1 == i) && (!(q.1 == i + 1) && !(q.1 + 1 == i && q.2.category == 2))))) : gv_has ε ls' n ((L.set i (some v)).set (i + 1) none) := by
  refine ⟨⟨h.1, h.2.1, fun q hq => h.2.2 q ?_⟩, by rw [List.length_set, List.length_set]; exact hL⟩
  obtain ⟨w, h1, h2, h3⟩ := gv_l_mem.mp hq
  rw [List.getElem?_set, List.length_set] at h1
  by_cases e0 : i + 1 = q.1
  · rw [if_pos e0, if_pos (by omega)] at h1
    cases h1
  · rw [if_neg e0, List.getElem?_set] at h1
    by_cases e : i = q.1
    · rw [if_pos e, if_pos (by omega)] at h1
      have e2 : v = w := by simpa using h1
      subst e2
      rw [show q = (i, gv_v ε v) from Prod.ext e.symm h2]
      exact List.mem_cons_self
    · rw [if_neg e] at h1
      refine List.mem_cons_of_mem _ (List.mem_filter.mpr ⟨gv_l_mem.mpr ⟨w, h1, h2, ?_⟩, ?_⟩)
      · intro z
        refine h3 ⟨z.1, ?_⟩
        rw [List.getElem?_set, List.length_set, if_neg (by omega), List.getElem?_set]
        by_cases e3 : i = q.1 + 1
        · rw [if_pos e3, if_pos (by omega)]
          simp
        · rw [if_neg e3]
          exact z.2
      · rw [h2, gv_cat]
        by_cases e3 : q.1 + 1 = i
        · have : ¬ w.category = 2 := fun z => h3 ⟨z, by rw [List.getElem?_set, List.length_set, if_neg (by omega), List.getElem?_set, if_pos e3.symm, if_pos (by omega)]; simp⟩
          simp [this]
          omega
        · simp [e3]
          omega
/-! the cells -/
theorem gv_w_len (ε : gv_E) (sw : List va_E) : (gv_w ε sw).length = sw.length := by simp [gv_w]
theorem gv_w_at {ε : gv_E} {sw : List va_E} {k : Nat} {e : va_E} (h : sw[k]? = some e) : (gv_w ε sw)[k]? = some (gv_as ε k, gv_e ε e) := by simp [gv_w, List.getElem?_mapIdx, h]
theorem gv_w_set (ε : gv_E) (sw : List va_E) (k : Nat) (e : va_E) : gv_w ε (sw.set k e) = (gv_w ε sw).set k (gv_as ε k, gv_e ε e) := by
  apply List.ext_getElem?
  intro i
  simp only [gv_w, List.getElem?_mapIdx, List.getElem?_set, List.length_mapIdx]
  by_cases h : k = i
  · subst h
    by_cases h2 : k < sw.length
    · simp [h2]
    · simp [h2]
  · simp [h]
theorem gv_w_push (ε : gv_E) (sw : List va_E) (e : va_E) : gv_w ε (sw ++ [e]) = gv_w ε sw ++ [(gv_as ε sw.length, gv_e ε e)] := by
  simp [gv_w, List.mapIdx_append]
theorem gv_as_lt {ε : gv_E} {k : Nat} (h : k < 1000) : gv_as ε k = ε.2.2.2.1 + k := by simp [gv_as, h]
theorem gv_D {ε : gv_E} {sw : List va_E} (h : sw.length ≤ 1000) : va_D (gv_A ε) (gv_w ε sw) := by
  have key : ∀ (i : Nat) (p : Nat × va_E), (gv_w ε sw)[i]? = some p → p.1 = ε.2.2.2.1 + i := by
    intro i p hp
    have hi : i < sw.length := by
      have := (List.getElem?_eq_some_iff.mp hp).1
      rwa [gv_w_len] at this
    rw [gv_w_at (List.getElem?_eq_getElem hi)] at hp
    cases hp
    exact gv_as_lt (by omega)
  refine ⟨fun i j p q hp hq e => ?_, fun k q hq => ?_⟩
  · have := key i p hp
    have := key j q hq
    omega
  · show ε.2.2.2.1 ≤ q.1
    have := key k q hq
    omega
/-- what holds at a method's entry -/
def gv_C (ε : gv_E) (M : gv_MR) (n0 : Nat) (p : Program) (s : State) (m : MethodId) (args : Array Value) (meth : Method) (c : Code) : Prop :=
  p.tables.exec = Jvm.exec ∧ c.code = M.2.1 ∧ meth.sig.returnType = M.2.2.2.1 ∧ c.maxLocals = M.2.2.1 ∧ s.vm.findClass M.1.cls = some m.cls ∧ (∀ w ∈ gv_W, w.before args s = true) ∧ meth.locks = false ∧ (M.1.name = "<init>" → meth.name = "<init>") ∧ gv_X ε s ∧ s.heap.size = ε.2.2.2.1 + n0
def gv_I (ε : gv_E) (M : gv_MR) (n0 : Nat) (s : State) (H : Heap) (locs : List Loc) (ls : Array Slot) (L : List (Option Value)) (sw : List va_E) (cu : Nat) : Prop :=
  va_P ε.2.1 vwCl (gv_w ε sw) H ∧ va_S (gv_A ε) s.heap H locs ∧ gv_has ε ls M.2.2.1 L ∧ sw.length = n0 + cu ∧ sw.length ≤ 1000
def gv_G (ε : gv_E) (R : Room) (M : gv_MR) (n0 : Nat) (Z : State → List Frame → Array Value → State → Prop) (pc : Nat) (L : List (Option Value)) (st : List Value) (sw : List va_E) (cu su : Nat) : Prop :=
  ∀ (p : Program) (e : Env) (s : State) (m : MethodId) (args : Array Value) (below : List Frame) (meth : Method) (c : Code), gv_C ε M n0 p s m args meth c → ∀ (H : Heap) (locs : List Loc) (ls : Array Slot), gv_I ε M n0 s H locs ls L sw cu → W p ε.1 e R s m args below meth c H locs cu su (Z s below args) (F0 m pc ls (st.map (gv_v ε)))
section GV
variable {ε : gv_E} {R : Room} {M : gv_MR} {n0 : Nat} {Z : State → List Frame → Array Value → State → Prop} {pc : Nat} {L : List (Option Value)} {st : List Value} {sw : List va_E} {cu su : Nat}

theorem gv_iconst {n : Int} {v : Int32} (hd : decode M.2.1 pc = .ok (.iconst n, 1)) (hv : Int32.ofInt n = v) (k : gv_G ε R M n0 Z (pc + 1) L (.int v :: st) sw cu su) : gv_G ε R M n0 Z pc L (st) sw cu su := by
  intro p e s m args below meth c C H locs ls I
  exact lv_iconst C.1 C.2.1 hd hv (k p e s m args below meth c C H locs ls I)
theorem gv_bipush {n : Int} {v : Int32} (hd : decode M.2.1 pc = .ok (.bipush n, 2)) (hv : (Int8.ofInt n).toInt32 = v) (k : gv_G ε R M n0 Z (pc + 2) L (.int v :: st) sw cu su) : gv_G ε R M n0 Z pc L (st) sw cu su := by
  intro p e s m args below meth c C H locs ls I
  exact lv_bipush C.1 C.2.1 hd hv (k p e s m args below meth c C H locs ls I)
theorem gv_sipush {n : Int} {v : Int32} (hd : decode M.2.1 pc = .ok (.sipush n, 3)) (hv : (Int16.ofInt n).toInt32 = v) (k : gv_G ε R M n0 Z (pc + 3) L (.int v :: st) sw cu su) : gv_G ε R M n0 Z pc L (st) sw cu su := by
  intro p e s m args below meth c C H locs ls I
  exact lv_sipush C.1 C.2.1 hd hv (k p e s m args below meth c C H locs ls I)
theorem gv_lconst {n : Fin 2} {v : Int64} (hd : decode M.2.1 pc = .ok (.lconst n, 1)) (hv : Int64.ofNat (n : Nat) = v) (k : gv_G ε R M n0 Z (pc + 1) L (.long v :: st) sw cu su) : gv_G ε R M n0 Z pc L (st) sw cu su := by
  intro p e s m args below meth c C H locs ls I
  exact lv_lconst C.1 C.2.1 hd hv (k p e s m args below meth c C H locs ls I)
theorem gv_ldc {i : Nat} {v : Int32} (hd : decode M.2.1 pc = .ok (.ldc i, 2)) (hw : Cond.constant M.1.cls i v ∈ gv_W) (k : gv_G ε R M n0 Z (pc + 2) L (.int v :: st) sw cu su) : gv_G ε R M n0 Z pc L (st) sw cu su := by
  intro p e s m args below meth c C H locs ls I
  exact lv_ldc C.1 C.2.1 C.2.2.2.2.1 (C.2.2.2.2.2.1 _ hw) hd (k p e s m args below meth c C H locs ls I)
theorem gv_ldcw {i : Nat} {v : Int32} (hd : decode M.2.1 pc = .ok (.ldc_w i, 3)) (hw : Cond.constant M.1.cls i v ∈ gv_W) (k : gv_G ε R M n0 Z (pc + 3) L (.int v :: st) sw cu su) : gv_G ε R M n0 Z pc L (st) sw cu su := by
  intro p e s m args below meth c C H locs ls I
  exact lv_ldcw C.1 C.2.1 C.2.2.2.2.1 (C.2.2.2.2.2.1 _ hw) hd (k p e s m args below meth c C H locs ls I)
theorem gv_ldc2 {i : Nat} {v : Int64} (hd : decode M.2.1 pc = .ok (.ldc2_w i, 3)) (hw : Cond.constantLong M.1.cls i v ∈ gv_W) (k : gv_G ε R M n0 Z (pc + 3) L (.long v :: st) sw cu su) : gv_G ε R M n0 Z pc L (st) sw cu su := by
  intro p e s m args below meth c C H locs ls I
  exact lv_ldc2 C.1 C.2.1 C.2.2.2.2.1 (C.2.2.2.2.2.1 _ hw) hd (k p e s m args below meth c C H locs ls I)
theorem gv_iload_n {j : Fin 4} {i : Nat} {x : Int32} (hd : decode M.2.1 pc = .ok (.iload_n j, 1)) (hi : (j : Nat) = i) (hl : L[i]? = some (some (.int x))) (k : gv_G ε R M n0 Z (pc + 1) L (.int x :: st) sw cu su) : gv_G ε R M n0 Z pc L (st) sw cu su := by
  intro p e s m args below meth c C H locs ls I
  exact lv_iload_n C.1 C.2.1 hd hi (I.2.2.1.at1 hl rfl) (k p e s m args below meth c C H locs ls I)
theorem gv_iload {i : Nat} {x : Int32} (hd : decode M.2.1 pc = .ok (.iload i, 2)) (hl : L[i]? = some (some (.int x))) (k : gv_G ε R M n0 Z (pc + 2) L (.int x :: st) sw cu su) : gv_G ε R M n0 Z pc L (st) sw cu su := by
  intro p e s m args below meth c C H locs ls I
  exact lv_iload C.1 C.2.1 hd (I.2.2.1.at1 hl rfl) (k p e s m args below meth c C H locs ls I)
theorem gv_aload_n {j : Fin 4} {i : Nat} {x : Nat} (hd : decode M.2.1 pc = .ok (.aload_n j, 1)) (hi : (j : Nat) = i) (hl : L[i]? = some (some (.ref x))) (k : gv_G ε R M n0 Z (pc + 1) L (.ref x :: st) sw cu su) : gv_G ε R M n0 Z pc L (st) sw cu su := by
  intro p e s m args below meth c C H locs ls I
  exact lv_aload_n C.1 C.2.1 hd hi (I.2.2.1.at1 hl rfl) (k p e s m args below meth c C H locs ls I)
theorem gv_aload {i : Nat} {x : Nat} (hd : decode M.2.1 pc = .ok (.aload i, 2)) (hl : L[i]? = some (some (.ref x))) (k : gv_G ε R M n0 Z (pc + 2) L (.ref x :: st) sw cu su) : gv_G ε R M n0 Z pc L (st) sw cu su := by
  intro p e s m args below meth c C H locs ls I
  exact lv_aload C.1 C.2.1 hd (I.2.2.1.at1 hl rfl) (k p e s m args below meth c C H locs ls I)
theorem gv_lload_n {j : Fin 4} {i : Nat} {x : Int64} (hd : decode M.2.1 pc = .ok (.lload_n j, 1)) (hi : (j : Nat) = i) (hl : L[i]? = some (some (.long x))) (hl2 : L[i + 1]? = some none) (k : gv_G ε R M n0 Z (pc + 1) L (.long x :: st) sw cu su) : gv_G ε R M n0 Z pc L (st) sw cu su := by
  intro p e s m args below meth c C H locs ls I
  exact lv_lload_n C.1 C.2.1 hd hi (I.2.2.1.at2 hl hl2) (k p e s m args below meth c C H locs ls I)
theorem gv_lload {i : Nat} {x : Int64} (hd : decode M.2.1 pc = .ok (.lload i, 2)) (hl : L[i]? = some (some (.long x))) (hl2 : L[i + 1]? = some none) (k : gv_G ε R M n0 Z (pc + 2) L (.long x :: st) sw cu su) : gv_G ε R M n0 Z pc L (st) sw cu su := by
  intro p e s m args below meth c C H locs ls I
  exact lv_lload C.1 C.2.1 hd (I.2.2.1.at2 hl hl2) (k p e s m args below meth c C H locs ls I)
theorem gv_istore_n {j : Fin 4} {i : Nat} {x : Int32} {L' : List (Option Value)} (hd : decode M.2.1 pc = .ok (.istore_n j, 1)) (hi : (j : Nat) = i) (hi2 : i < M.2.2.1) (hL : (L.set i (some (.int x))) = L') (k : gv_G ε R M n0 Z (pc + 1) L' st sw cu su) : gv_G ε R M n0 Z pc L (.int x :: st) sw cu su := by
  subst hL
  intro p e s m args below meth c C H locs ls I
  exact lv_istore_n C.1 C.2.1 hd hi I.2.2.1.1 hi2 rfl (fun ls' h => k p e s m args below meth c C H locs ls' ⟨I.1, I.2.1, gv_has.store1 I.2.2.1.2 hi2 rfl h, I.2.2.2⟩)
theorem gv_istore {i : Nat} {x : Int32} {L' : List (Option Value)} (hd : decode M.2.1 pc = .ok (.istore i, 2)) (hi2 : i < M.2.2.1) (hL : (L.set i (some (.int x))) = L') (k : gv_G ε R M n0 Z (pc + 2) L' st sw cu su) : gv_G ε R M n0 Z pc L (.int x :: st) sw cu su := by
  subst hL
  intro p e s m args below meth c C H locs ls I
  exact lv_istore C.1 C.2.1 hd I.2.2.1.1 hi2 rfl (fun ls' h => k p e s m args below meth c C H locs ls' ⟨I.1, I.2.1, gv_has.store1 I.2.2.1.2 hi2 rfl h, I.2.2.2⟩)
theorem gv_astore_n {j : Fin 4} {i : Nat} {x : Nat} {L' : List (Option Value)} (hd : decode M.2.1 pc = .ok (.astore_n j, 1)) (hi : (j : Nat) = i) (hi2 : i < M.2.2.1) (hL : (L.set i (some (.ref x))) = L') (k : gv_G ε R M n0 Z (pc + 1) L' st sw cu su) : gv_G ε R M n0 Z pc L (.ref x :: st) sw cu su := by
  subst hL
  intro p e s m args below meth c C H locs ls I
  exact lv_astore_n C.1 C.2.1 hd hi I.2.2.1.1 hi2 rfl (fun ls' h => k p e s m args below meth c C H locs ls' ⟨I.1, I.2.1, gv_has.store1 I.2.2.1.2 hi2 rfl h, I.2.2.2⟩)
theorem gv_astore {i : Nat} {x : Nat} {L' : List (Option Value)} (hd : decode M.2.1 pc = .ok (.astore i, 2)) (hi2 : i < M.2.2.1) (hL : (L.set i (some (.ref x))) = L') (k : gv_G ε R M n0 Z (pc + 2) L' st sw cu su) : gv_G ε R M n0 Z pc L (.ref x :: st) sw cu su := by
  subst hL
  intro p e s m args below meth c C H locs ls I
  exact lv_astore C.1 C.2.1 hd I.2.2.1.1 hi2 rfl (fun ls' h => k p e s m args below meth c C H locs ls' ⟨I.1, I.2.1, gv_has.store1 I.2.2.1.2 hi2 rfl h, I.2.2.2⟩)
theorem gv_lstore_n {j : Fin 4} {i : Nat} {x : Int64} {L' : List (Option Value)} (hd : decode M.2.1 pc = .ok (.lstore_n j, 1)) (hi : (j : Nat) = i) (hi2 : i + 1 < M.2.2.1) (hL : ((L.set i (some (.long x))).set (i + 1) none) = L') (k : gv_G ε R M n0 Z (pc + 1) L' st sw cu su) : gv_G ε R M n0 Z pc L (.long x :: st) sw cu su := by
  subst hL
  intro p e s m args below meth c C H locs ls I
  exact lv_lstore_n C.1 C.2.1 hd hi I.2.2.1.1 hi2 rfl (fun ls' h => k p e s m args below meth c C H locs ls' ⟨I.1, I.2.1, gv_has.store2 I.2.2.1.2 hi2 h, I.2.2.2⟩)
theorem gv_lstore {i : Nat} {x : Int64} {L' : List (Option Value)} (hd : decode M.2.1 pc = .ok (.lstore i, 2)) (hi2 : i + 1 < M.2.2.1) (hL : ((L.set i (some (.long x))).set (i + 1) none) = L') (k : gv_G ε R M n0 Z (pc + 2) L' st sw cu su) : gv_G ε R M n0 Z pc L (.long x :: st) sw cu su := by
  subst hL
  intro p e s m args below meth c C H locs ls I
  exact lv_lstore C.1 C.2.1 hd I.2.2.1.1 hi2 rfl (fun ls' h => k p e s m args below meth c C H locs ls' ⟨I.1, I.2.1, gv_has.store2 I.2.2.1.2 hi2 h, I.2.2.2⟩)
theorem gv_iinc {i : Nat} {n : Int} {x v : Int32} {L' : List (Option Value)} (hd : decode M.2.1 pc = .ok (.iinc i n, 3)) (hl : L[i]? = some (some (.int x))) (hv : x + Int32.ofInt n = v) (hL : (L.set i (some (.int v))) = L') (k : gv_G ε R M n0 Z (pc + 3) L' st sw cu su) : gv_G ε R M n0 Z pc L st sw cu su := by
  subst hL
  intro p e s m args below meth c C H locs ls I
  have hm : (i, Value.int x) ∈ gv_l ε L := gv_l_mem.mpr ⟨.int x, hl, rfl, fun q => absurd (show (1 : Nat) = 2 from q.1) (by decide)⟩
  obtain ⟨j, hj⟩ := List.getElem?_of_mem hm
  have hi2 : i < M.2.2.1 := by rw [← I.2.2.1.2]; exact (List.getElem?_eq_some_iff.mp hl).1
  exact lv_iinc C.1 C.2.1 hd I.2.2.1.1 hj hv hi2 rfl (fun ls' h => k p e s m args below meth c C H locs ls' ⟨I.1, I.2.1, gv_has.store1 I.2.2.1.2 hi2 rfl h, I.2.2.2⟩)
theorem gv_iadd {x y : Int32} (hd : decode M.2.1 pc = .ok (.iadd, 1)) (k : gv_G ε R M n0 Z (pc + 1) L (.int (x + y) :: st) sw cu su) : gv_G ε R M n0 Z pc L (.int y :: .int x :: st) sw cu su := by
  intro p e s m args below meth c C H locs ls I
  exact lv_iadd C.1 C.2.1 hd (k p e s m args below meth c C H locs ls I)
theorem gv_isub {x y : Int32} (hd : decode M.2.1 pc = .ok (.isub, 1)) (k : gv_G ε R M n0 Z (pc + 1) L (.int (x - y) :: st) sw cu su) : gv_G ε R M n0 Z pc L (.int y :: .int x :: st) sw cu su := by
  intro p e s m args below meth c C H locs ls I
  exact lv_isub C.1 C.2.1 hd (k p e s m args below meth c C H locs ls I)
theorem gv_imul {x y : Int32} (hd : decode M.2.1 pc = .ok (.imul, 1)) (k : gv_G ε R M n0 Z (pc + 1) L (.int (x * y) :: st) sw cu su) : gv_G ε R M n0 Z pc L (.int y :: .int x :: st) sw cu su := by
  intro p e s m args below meth c C H locs ls I
  exact lv_imul C.1 C.2.1 hd (k p e s m args below meth c C H locs ls I)
theorem gv_iand {x y : Int32} (hd : decode M.2.1 pc = .ok (.iand, 1)) (k : gv_G ε R M n0 Z (pc + 1) L (.int (x &&& y) :: st) sw cu su) : gv_G ε R M n0 Z pc L (.int y :: .int x :: st) sw cu su := by
  intro p e s m args below meth c C H locs ls I
  exact lv_iand C.1 C.2.1 hd (k p e s m args below meth c C H locs ls I)
theorem gv_ior {x y : Int32} (hd : decode M.2.1 pc = .ok (.ior, 1)) (k : gv_G ε R M n0 Z (pc + 1) L (.int (x ||| y) :: st) sw cu su) : gv_G ε R M n0 Z pc L (.int y :: .int x :: st) sw cu su := by
  intro p e s m args below meth c C H locs ls I
  exact lv_ior C.1 C.2.1 hd (k p e s m args below meth c C H locs ls I)
theorem gv_ixor {x y : Int32} (hd : decode M.2.1 pc = .ok (.ixor, 1)) (k : gv_G ε R M n0 Z (pc + 1) L (.int (x ^^^ y) :: st) sw cu su) : gv_G ε R M n0 Z pc L (.int y :: .int x :: st) sw cu su := by
  intro p e s m args below meth c C H locs ls I
  exact lv_ixor C.1 C.2.1 hd (k p e s m args below meth c C H locs ls I)
theorem gv_ishl {x y : Int32} (hd : decode M.2.1 pc = .ok (.ishl, 1)) (k : gv_G ε R M n0 Z (pc + 1) L (.int (x <<< (y &&& 31)) :: st) sw cu su) : gv_G ε R M n0 Z pc L (.int y :: .int x :: st) sw cu su := by
  intro p e s m args below meth c C H locs ls I
  exact lv_ishl C.1 C.2.1 hd (k p e s m args below meth c C H locs ls I)
theorem gv_ishr {x y : Int32} (hd : decode M.2.1 pc = .ok (.ishr, 1)) (k : gv_G ε R M n0 Z (pc + 1) L (.int (x >>> (y &&& 31)) :: st) sw cu su) : gv_G ε R M n0 Z pc L (.int y :: .int x :: st) sw cu su := by
  intro p e s m args below meth c C H locs ls I
  exact lv_ishr C.1 C.2.1 hd (k p e s m args below meth c C H locs ls I)
theorem gv_idiv {x y : Int32} (hd : decode M.2.1 pc = .ok (.idiv, 1)) (h0 : ¬ y = 0) (k : gv_G ε R M n0 Z (pc + 1) L (.int (x / y) :: st) sw cu su) : gv_G ε R M n0 Z pc L (.int y :: .int x :: st) sw cu su := by
  intro p e s m args below meth c C H locs ls I
  exact lv_idiv C.1 C.2.1 hd h0 (k p e s m args below meth c C H locs ls I)
theorem gv_irem {x y : Int32} (hd : decode M.2.1 pc = .ok (.irem, 1)) (h0 : ¬ y = 0) (k : gv_G ε R M n0 Z (pc + 1) L (.int (x - x / y * y) :: st) sw cu su) : gv_G ε R M n0 Z pc L (.int y :: .int x :: st) sw cu su := by
  intro p e s m args below meth c C H locs ls I
  exact lv_irem C.1 C.2.1 hd h0 (k p e s m args below meth c C H locs ls I)
theorem gv_ineg {x : Int32} (hd : decode M.2.1 pc = .ok (.ineg, 1)) (k : gv_G ε R M n0 Z (pc + 1) L (.int (-x) :: st) sw cu su) : gv_G ε R M n0 Z pc L (.int x :: st) sw cu su := by
  intro p e s m args below meth c C H locs ls I
  exact lv_ineg C.1 C.2.1 hd (k p e s m args below meth c C H locs ls I)
theorem gv_iushr {x y : Int32} (hd : decode M.2.1 pc = .ok (.iushr, 1)) (k : gv_G ε R M n0 Z (pc + 1) L (.int ((x.toUInt32 >>> (y.toUInt32 &&& Int32.toUInt32 31)).toInt32) :: st) sw cu su) : gv_G ε R M n0 Z pc L (.int y :: .int x :: st) sw cu su := by
  intro p e s m args below meth c C H locs ls I
  exact lv_iushr C.1 C.2.1 hd rfl (k p e s m args below meth c C H locs ls I)
theorem gv_ladd {x y : Int64} (hd : decode M.2.1 pc = .ok (.ladd, 1)) (k : gv_G ε R M n0 Z (pc + 1) L (.long (x + y) :: st) sw cu su) : gv_G ε R M n0 Z pc L (.long y :: .long x :: st) sw cu su := by
  intro p e s m args below meth c C H locs ls I
  exact lv_ladd C.1 C.2.1 hd (k p e s m args below meth c C H locs ls I)
theorem gv_lmul {x y : Int64} (hd : decode M.2.1 pc = .ok (.lmul, 1)) (k : gv_G ε R M n0 Z (pc + 1) L (.long (x * y) :: st) sw cu su) : gv_G ε R M n0 Z pc L (.long y :: .long x :: st) sw cu su := by
  intro p e s m args below meth c C H locs ls I
  exact lv_lmul C.1 C.2.1 hd (k p e s m args below meth c C H locs ls I)
theorem gv_land {x y : Int64} (hd : decode M.2.1 pc = .ok (.land, 1)) (k : gv_G ε R M n0 Z (pc + 1) L (.long (x &&& y) :: st) sw cu su) : gv_G ε R M n0 Z pc L (.long y :: .long x :: st) sw cu su := by
  intro p e s m args below meth c C H locs ls I
  exact lv_land C.1 C.2.1 hd (k p e s m args below meth c C H locs ls I)
theorem gv_lshr {x : Int64} {y : Int32} (hd : decode M.2.1 pc = .ok (.lshr, 1)) (k : gv_G ε R M n0 Z (pc + 1) L (.long (x >>> (y.toInt64 &&& 63)) :: st) sw cu su) : gv_G ε R M n0 Z pc L (.int y :: .long x :: st) sw cu su := by
  intro p e s m args below meth c C H locs ls I
  exact lv_lshr C.1 C.2.1 hd rfl (k p e s m args below meth c C H locs ls I)
theorem gv_lcmp {x y : Int64} (hd : decode M.2.1 pc = .ok (.lcmp, 1)) (k : gv_G ε R M n0 Z (pc + 1) L (.int (lg_cmp x y) :: st) sw cu su) : gv_G ε R M n0 Z pc L (.long y :: .long x :: st) sw cu su := by
  intro p e s m args below meth c C H locs ls I
  exact W.lcmp C.1 C.2.1 hd (k p e s m args below meth c C H locs ls I)
theorem gv_dup {v : Value} (hd : decode M.2.1 pc = .ok (.dup, 1)) (hc : v.category = 1) (k : gv_G ε R M n0 Z (pc + 1) L (v :: v :: st) sw cu su) : gv_G ε R M n0 Z pc L (v :: st) sw cu su := by
  intro p e s m args below meth c C H locs ls I
  exact lv_dup C.1 C.2.1 hd (by rw [gv_cat]; exact hc) (k p e s m args below meth c C H locs ls I)
theorem gv_pop {v : Value} (hd : decode M.2.1 pc = .ok (.pop, 1)) (hc : v.category = 1) (k : gv_G ε R M n0 Z (pc + 1) L (st) sw cu su) : gv_G ε R M n0 Z pc L (v :: st) sw cu su := by
  intro p e s m args below meth c C H locs ls I
  exact lv_pop C.1 C.2.1 hd (by rw [gv_cat]; exact hc) (k p e s m args below meth c C H locs ls I)
theorem gv_dup2 {v u : Value} (hd : decode M.2.1 pc = .ok (.dup2, 1)) (hc : v.category = 1) (hc2 : u.category = 1) (k : gv_G ε R M n0 Z (pc + 1) L (v :: u :: v :: u :: st) sw cu su) : gv_G ε R M n0 Z pc L (v :: u :: st) sw cu su := by
  intro p e s m args below meth c C H locs ls I
  exact lv_dup2_11 C.1 C.2.1 hd (by rw [gv_cat]; exact hc) (by rw [gv_cat]; exact hc2) (k p e s m args below meth c C H locs ls I)
theorem gv_if_eq {x : Int32} {off : Int} {tgt : Nat} (hd : decode M.2.1 pc = .ok (.ifCond .eq off, 3)) (ht : (pc : Int) + off = (tgt : Int)) (kt : x = 0 → gv_G ε R M n0 Z tgt L st sw cu su) (kf : ¬ (x = 0) → gv_G ε R M n0 Z (pc + 3) L st sw cu su) : gv_G ε R M n0 Z pc L (.int x :: st) sw cu su := by
  intro p e s m args below meth c C H locs ls I
  exact lv_if_eq C.1 C.2.1 hd ht (fun h => kt h p e s m args below meth c C H locs ls I) (fun h => kf h p e s m args below meth c C H locs ls I)
theorem gv_icmp_eq {x y : Int32} {off : Int} {tgt : Nat} (hd : decode M.2.1 pc = .ok (.if_icmp .eq off, 3)) (ht : (pc : Int) + off = (tgt : Int)) (kt : x = y → gv_G ε R M n0 Z tgt L st sw cu su) (kf : ¬ (x = y) → gv_G ε R M n0 Z (pc + 3) L st sw cu su) : gv_G ε R M n0 Z pc L (.int y :: .int x :: st) sw cu su := by
  intro p e s m args below meth c C H locs ls I
  exact lv_icmp_eq C.1 C.2.1 hd ht (fun h => kt h p e s m args below meth c C H locs ls I) (fun h => kf h p e s m args below meth c C H locs ls I)
theorem gv_if_ne {x : Int32} {off : Int} {tgt : Nat} (hd : decode M.2.1 pc = .ok (.ifCond .ne off, 3)) (ht : (pc : Int) + off = (tgt : Int)) (kt : ¬ x = 0 → gv_G ε R M n0 Z tgt L st sw cu su) (kf : x = 0 → gv_G ε R M n0 Z (pc + 3) L st sw cu su) : gv_G ε R M n0 Z pc L (.int x :: st) sw cu su := by
  intro p e s m args below meth c C H locs ls I
  exact lv_if_ne C.1 C.2.1 hd ht (fun h => kt h p e s m args below meth c C H locs ls I) (fun h => kf h p e s m args below meth c C H locs ls I)
theorem gv_icmp_ne {x y : Int32} {off : Int} {tgt : Nat} (hd : decode M.2.1 pc = .ok (.if_icmp .ne off, 3)) (ht : (pc : Int) + off = (tgt : Int)) (kt : ¬ x = y → gv_G ε R M n0 Z tgt L st sw cu su) (kf : x = y → gv_G ε R M n0 Z (pc + 3) L st sw cu su) : gv_G ε R M n0 Z pc L (.int y :: .int x :: st) sw cu su := by
  intro p e s m args below meth c C H locs ls I
  exact lv_icmp_ne C.1 C.2.1 hd ht (fun h => kt h p e s m args below meth c C H locs ls I) (fun h => kf h p e s m args below meth c C H locs ls I)
theorem gv_if_lt {x : Int32} {off : Int} {tgt : Nat} (hd : decode M.2.1 pc = .ok (.ifCond .lt off, 3)) (ht : (pc : Int) + off = (tgt : Int)) (kt : x < 0 → gv_G ε R M n0 Z tgt L st sw cu su) (kf : ¬ (x < 0) → gv_G ε R M n0 Z (pc + 3) L st sw cu su) : gv_G ε R M n0 Z pc L (.int x :: st) sw cu su := by
  intro p e s m args below meth c C H locs ls I
  exact lv_if_lt C.1 C.2.1 hd ht (fun h => kt h p e s m args below meth c C H locs ls I) (fun h => kf h p e s m args below meth c C H locs ls I)
theorem gv_icmp_lt {x y : Int32} {off : Int} {tgt : Nat} (hd : decode M.2.1 pc = .ok (.if_icmp .lt off, 3)) (ht : (pc : Int) + off = (tgt : Int)) (kt : x < y → gv_G ε R M n0 Z tgt L st sw cu su) (kf : ¬ (x < y) → gv_G ε R M n0 Z (pc + 3) L st sw cu su) : gv_G ε R M n0 Z pc L (.int y :: .int x :: st) sw cu su := by
  intro p e s m args below meth c C H locs ls I
  exact lv_icmp_lt C.1 C.2.1 hd ht (fun h => kt h p e s m args below meth c C H locs ls I) (fun h => kf h p e s m args below meth c C H locs ls I)
theorem gv_if_ge {x : Int32} {off : Int} {tgt : Nat} (hd : decode M.2.1 pc = .ok (.ifCond .ge off, 3)) (ht : (pc : Int) + off = (tgt : Int)) (kt : 0 ≤ x → gv_G ε R M n0 Z tgt L st sw cu su) (kf : ¬ (0 ≤ x) → gv_G ε R M n0 Z (pc + 3) L st sw cu su) : gv_G ε R M n0 Z pc L (.int x :: st) sw cu su := by
  intro p e s m args below meth c C H locs ls I
  exact lv_if_ge C.1 C.2.1 hd ht (fun h => kt h p e s m args below meth c C H locs ls I) (fun h => kf h p e s m args below meth c C H locs ls I)
theorem gv_icmp_ge {x y : Int32} {off : Int} {tgt : Nat} (hd : decode M.2.1 pc = .ok (.if_icmp .ge off, 3)) (ht : (pc : Int) + off = (tgt : Int)) (kt : y ≤ x → gv_G ε R M n0 Z tgt L st sw cu su) (kf : ¬ (y ≤ x) → gv_G ε R M n0 Z (pc + 3) L st sw cu su) : gv_G ε R M n0 Z pc L (.int y :: .int x :: st) sw cu su := by
  intro p e s m args below meth c C H locs ls I
  exact lv_icmp_ge C.1 C.2.1 hd ht (fun h => kt h p e s m args below meth c C H locs ls I) (fun h => kf h p e s m args below meth c C H locs ls I)
theorem gv_if_gt {x : Int32} {off : Int} {tgt : Nat} (hd : decode M.2.1 pc = .ok (.ifCond .gt off, 3)) (ht : (pc : Int) + off = (tgt : Int)) (kt : 0 < x → gv_G ε R M n0 Z tgt L st sw cu su) (kf : ¬ (0 < x) → gv_G ε R M n0 Z (pc + 3) L st sw cu su) : gv_G ε R M n0 Z pc L (.int x :: st) sw cu su := by
  intro p e s m args below meth c C H locs ls I
  exact lv_if_gt C.1 C.2.1 hd ht (fun h => kt h p e s m args below meth c C H locs ls I) (fun h => kf h p e s m args below meth c C H locs ls I)
theorem gv_icmp_gt {x y : Int32} {off : Int} {tgt : Nat} (hd : decode M.2.1 pc = .ok (.if_icmp .gt off, 3)) (ht : (pc : Int) + off = (tgt : Int)) (kt : y < x → gv_G ε R M n0 Z tgt L st sw cu su) (kf : ¬ (y < x) → gv_G ε R M n0 Z (pc + 3) L st sw cu su) : gv_G ε R M n0 Z pc L (.int y :: .int x :: st) sw cu su := by
  intro p e s m args below meth c C H locs ls I
  exact lv_icmp_gt C.1 C.2.1 hd ht (fun h => kt h p e s m args below meth c C H locs ls I) (fun h => kf h p e s m args below meth c C H locs ls I)
theorem gv_if_le {x : Int32} {off : Int} {tgt : Nat} (hd : decode M.2.1 pc = .ok (.ifCond .le off, 3)) (ht : (pc : Int) + off = (tgt : Int)) (kt : x ≤ 0 → gv_G ε R M n0 Z tgt L st sw cu su) (kf : ¬ (x ≤ 0) → gv_G ε R M n0 Z (pc + 3) L st sw cu su) : gv_G ε R M n0 Z pc L (.int x :: st) sw cu su := by
  intro p e s m args below meth c C H locs ls I
  exact lv_if_le C.1 C.2.1 hd ht (fun h => kt h p e s m args below meth c C H locs ls I) (fun h => kf h p e s m args below meth c C H locs ls I)
theorem gv_icmp_le {x y : Int32} {off : Int} {tgt : Nat} (hd : decode M.2.1 pc = .ok (.if_icmp .le off, 3)) (ht : (pc : Int) + off = (tgt : Int)) (kt : x ≤ y → gv_G ε R M n0 Z tgt L st sw cu su) (kf : ¬ (x ≤ y) → gv_G ε R M n0 Z (pc + 3) L st sw cu su) : gv_G ε R M n0 Z pc L (.int y :: .int x :: st) sw cu su := by
  intro p e s m args below meth c C H locs ls I
  exact lv_icmp_le C.1 C.2.1 hd ht (fun h => kt h p e s m args below meth c C H locs ls I) (fun h => kf h p e s m args below meth c C H locs ls I)
theorem gv_goto {off : Int} {tgt : Nat} (hd : decode M.2.1 pc = .ok (.goto off, 3)) (ht : (pc : Int) + off = (tgt : Int)) (k : gv_G ε R M n0 Z tgt L st sw cu su) : gv_G ε R M n0 Z pc L st sw cu su := by
  intro p e s m args below meth c C H locs ls I
  exact lv_goto C.1 C.2.1 hd ht (k p e s m args below meth c C H locs ls I)
theorem gv_tabOut {dflt lo hi : Int} {offs : Array Int} {len : Nat} {x : Int32} {tgt : Nat} (hd : decode M.2.1 pc = .ok (.tableswitch dflt lo hi offs, len)) (h : x.toInt < lo ∨ hi < x.toInt) (ht : (pc : Int) + dflt = (tgt : Int)) (k : gv_G ε R M n0 Z tgt L st sw cu su) : gv_G ε R M n0 Z pc L (.int x :: st) sw cu su := by
  intro p e s m args below meth c C H locs ls I
  exact lv_tableOut C.1 C.2.1 hd h ht (k p e s m args below meth c C H locs ls I)
theorem gv_tabIn {dflt lo hi : Int} {offs : Array Int} {len : Nat} {x : Int32} {off : Int} {tgt : Nat} (hd : decode M.2.1 pc = .ok (.tableswitch dflt lo hi offs, len)) (h1 : ¬ x.toInt < lo) (h2 : ¬ hi < x.toInt) (ho : offs[(x.toInt - lo).toNat]? = some off) (ht : (pc : Int) + off = (tgt : Int)) (k : gv_G ε R M n0 Z tgt L st sw cu su) : gv_G ε R M n0 Z pc L (.int x :: st) sw cu su := by
  intro p e s m args below meth c C H locs ls I
  exact lv_tableIn C.1 C.2.1 hd h1 h2 ho ht (k p e s m args below meth c C H locs ls I)
end GV
