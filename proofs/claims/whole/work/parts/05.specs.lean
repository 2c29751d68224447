/-! a method's contract, calls, returns -/
def gv_rm (d : Nat) (M : gv_MR) : Room := { frames := d, cells := M.2.2.2.2.1, slots := M.2.2.2.2.2, locals := 41 * d }
def gv_ws (M : gv_MR) : List Cond := .code M.1 M.2.1 M.2.2.1 M.2.2.2.1 :: gv_W
def gv_Qc (ε : gv_E) (n1 : Nat) (Qs : Option Value → List va_E → Prop) : Array Value → State → Outcome → State → Prop := fun _ s oc t => (∃ (r : Option Value) (sw' : List va_E), oc = .returned (r.map (gv_v ε)) ∧ Qs r sw' ∧ va_P ε.2.1 vwCl (gv_w ε sw') t.heap ∧ sw'.length = n1 ∧ sw'.length ≤ 1000) ∧ va_F (gv_A ε) s t
def gv_Pc (ε : gv_E) (As : List Value) (sw : List va_E) : Array Value → State → Prop := fun v U => v = (As.map (gv_v ε)).toArray ∧ gv_X ε U ∧ U.heap.size = ε.2.2.2.1 + sw.length ∧ va_P ε.2.1 vwCl (gv_w ε sw) U.heap ∧ sw.length ≤ 1000
def gv_S (ε : gv_E) (d : Nat) (M : gv_MR) (As : List Value) (sw : List va_E) (Qs : Option Value → List va_E → Prop) : Prop := Met ε.1 M.1 (gv_ws M) (gv_rm d M) (gv_Pc ε As sw) (gv_Qc ε (sw.length + M.2.2.2.2.1) Qs) M.2.2.2.2.1 M.2.2.2.2.2 (gv_A ε)
def gv_Z (ε : gv_E) (M : gv_MR) (n0 : Nat) (Qs : Option Value → List va_E → Prop) : State → List Frame → Array Value → State → Prop := fun s below args => MQ below (gv_Qc ε (n0 + M.2.2.2.2.1) Qs) args s M.2.2.2.2.1 M.2.2.2.2.2 (gv_A ε)
/-- the walk of a method at depth d -/
abbrev gv_M (ε : gv_E) (d : Nat) (M : gv_MR) (n0 : Nat) (Qs : Option Value → List va_E → Prop) := gv_G ε (gv_rm d M) M n0 (gv_Z ε M n0 Qs)
theorem gv_args_mem (vs : List Value) (h : ∀ v ∈ vs, v.category = 1) : ∀ (i j : Nat) (v : Value), vs[j]? = some v → (i + j, v) ∈ lv_args i vs := by
  induction vs with
  | nil => intro i j v hv; cases hv
  | cons w ws ih =>
    intro i j v hv
    have hw : ¬ w.category = 2 := by rw [h w List.mem_cons_self]; decide
    simp only [lv_args, if_neg hw]
    cases j with
    | zero =>
      cases hv
      exact List.mem_cons_self
    | succ j =>
      refine List.mem_cons_of_mem _ ?_
      have := ih (fun v hv => h v (List.mem_cons_of_mem _ hv)) (i + 1) j v hv
      rwa [show i + 1 + j = i + (j + 1) by omega] at this
theorem gv_sl_len (vs : List Value) (h : ∀ v ∈ vs, v.category = 1) : (lg_sl vs).length = vs.length := by
  induction vs with
  | nil => rfl
  | cons w ws ih =>
    have hw : ¬ w.category = 2 := by rw [h w List.mem_cons_self]; decide
    have : lg_sl (w :: ws) = .val w :: lg_sl ws := by simp [lg_sl, hw]
    rw [this, List.length_cons, List.length_cons, ih (fun v hv => h v (List.mem_cons_of_mem _ hv))]
def gv_L0 (As : List Value) (n : Nat) : List (Option Value) := As.map some ++ List.replicate (n - As.length) none
theorem gv_entry {ε : gv_E} {As : List Value} {n : Nat} (h : ∀ v ∈ As, v.category = 1) (hn : As.length ≤ n) : gv_has ε ((lg_sl (As.map (gv_v ε)) ++ List.replicate (n - (lg_sl (As.map (gv_v ε))).length) Slot.unset).toArray) n (gv_L0 As n) := by
  have h2 : ∀ v ∈ As.map (gv_v ε), v.category = 1 := by
    intro v hv
    obtain ⟨w, hw, rfl⟩ := List.mem_map.mp hv
    rw [gv_cat]
    exact h w hw
  have e1 := lv_entry (As.map (gv_v ε)) (n := n) (by rw [gv_sl_len _ h2, List.length_map]; exact hn)
  refine ⟨⟨e1.1, e1.2.1, fun q hq => ?_⟩, by simp [gv_L0]; omega⟩
  obtain ⟨v, h3, h4, -⟩ := gv_l_mem.mp hq
  have h5 : As[q.1]? = some v := by
    unfold gv_L0 at h3
    rcases Nat.lt_or_ge q.1 (As.map some).length with z | z
    · rw [List.getElem?_append_left z, List.getElem?_map] at h3
      cases h6 : As[q.1]? with
      | none => rw [h6] at h3; cases h3
      | some w =>
        rw [h6] at h3
        have : some (some w) = some (some v) := h3
        exact Option.some.inj this
    · rw [List.getElem?_append_right z, List.getElem?_replicate] at h3
      split at h3 <;> cases h3
  have := gv_args_mem _ h2 0 q.1 (gv_v ε v) (by rw [List.getElem?_map, h5]; rfl)
  rw [Nat.zero_add] at this
  have e : q = (q.1, gv_v ε v) := Prod.ext rfl h4
  rw [e]
  exact e1.2.2 _ this
/-- a method's contract out of its walk -/
theorem gv_S.intro {ε : gv_E} {d : Nat} {M : gv_MR} {As : List Value} {sw : List va_E} {Qs : Option Value → List va_E → Prop} (hy : plainName M.1.cls = true) (hc : ∀ v ∈ As, v.category = 1) (hn : As.length ≤ M.2.2.1) (k : gv_M ε d M sw.length Qs 0 (gv_L0 As M.2.2.1) [] sw 0 0) : gv_S ε d M As sw Qs := by
  refine Met.ofW (cc := M.2.1) (maxL := M.2.2.1) (ret := M.2.2.2.1) hy rfl ?_
  intro p e s m args below meth c s₁ B hml hv
  obtain ⟨rfl, hX, hz, hP, hle⟩ := hv
  have hts := atoms_spec (ws := gv_ws M) B.pre
  rw [lg_entry_eq]
  refine k p e s m _ below meth c ⟨B.exec, B.bytes, B.returns, hml, findClass_of_methodNamed B.named, fun w hw => hts w (List.mem_cons_of_mem _ hw), B.notSynchronized, fun h => (name_of_methodNamed B.named B.method).1.trans h, hX, hz⟩ s.heap [] _ ⟨hP, va_S.rf, gv_entry hc hn, rfl, hle⟩
section GR
variable {ε : gv_E} {R : Room} {M : gv_MR} {n0 d : Nat} {Qs : Option Value → List va_E → Prop} {Z : State → List Frame → Array Value → State → Prop} {pc : Nat} {L : List (Option Value)} {st : List Value} {sw : List va_E} {cu su : Nat}
theorem gv_ireturn {v : Int32} {ty : FieldType} (hd : decode M.2.1 pc = .ok (.ireturn, 1)) (hr : M.2.2.2.1 = some ty) (hn : narrow ty (.int v) = .int v) (hc : cu = M.2.2.2.2.1) (hs : su ≤ M.2.2.2.2.2) (hq : Qs (some (.int v)) sw) : gv_M ε d M n0 Qs pc L [.int v] sw cu su := by
  intro p e s m args below meth c C H locs ls I
  subst hc
  refine W.widen (k := M.2.2.2.2.1) (n := M.2.2.2.2.2) (Nat.le_refl _) hs ?_
  exact W.zret C.1 C.2.1 (C.2.2.1.trans hr) hn (fun t ht hW => ⟨⟨some (.int v), sw, rfl, hq, by rw [ht]; exact I.1, I.2.2.2.1, I.2.2.2.2⟩, I.2.1.F ht⟩) I.2.1.2.2 hd C.2.2.2.2.2.2.1
theorem gv_return (hd : decode M.2.1 pc = .ok (.return_, 1)) (hr : M.2.2.2.1 = none) (hc : cu = M.2.2.2.2.1) (hs : su ≤ M.2.2.2.2.2) (hq : Qs none sw) : gv_M ε d M n0 Qs pc L [] sw cu su := by
  intro p e s m args below meth c C H locs ls I
  subst hc
  refine W.widen (k := M.2.2.2.2.1) (n := M.2.2.2.2.2) (Nat.le_refl _) hs ?_
  exact W.vret C.1 C.2.1 (C.2.2.1.trans hr) (fun t ht hW => ⟨⟨none, sw, rfl, hq, by rw [ht]; exact I.1, I.2.2.2.1, I.2.2.2.2⟩, I.2.1.F ht⟩) I.2.1.2.2 hd C.2.2.2.2.2.2.1
theorem gv_objInit {idx k : Nat} (hd : decode M.2.1 pc = .ok (.invokespecial idx, 3)) (hw : Cond.methodLink M.1.cls idx objectInit ∈ gv_W ∧ Cond.instanceMethod objectInit ∈ gv_W ∧ Cond.code objectInit ⟨#[0xb1]⟩ 1 none ∈ gv_W) (hR : 1 ≤ R.frames ∧ 41 ≤ R.locals) (hst : (st.map (fun v => v.category)).sum ≤ 8) (kk : gv_G ε R M n0 Z (pc + 3) L st sw cu su) : gv_G ε R M n0 Z pc L (.ref k :: st) sw cu su := by
  intro p e s m args below meth c C H locs ls I
  refine W.objInit C.1 C.2.1 C.2.2.2.2.1 (C.2.2.2.2.2.1 _ hw.1) (C.2.2.2.2.2.1 _ hw.2.1) (C.2.2.2.2.2.1 _ hw.2.2) rfl (by rw [C.2.2.2.1]; exact I.2.2.1.1.1) rfl hd hR.1 ?_ (kk p e s m args below meth c C H locs ls I)
  have e1 : ((st.map (gv_v ε)).map fun v => v.category) = st.map (fun v => v.category) := by
    rw [List.map_map]
    exact List.map_congr_left (fun v _ => gv_cat ε v)
  have e2 := lv_room (m := m) (pc := pc) (ls := ls) (rest := (Value.ref k :: st).map (gv_v ε)) (st := st.map (gv_v ε)) (by rw [e1]; exact hst)
  have := hR.2
  exact Nat.le_trans (Nat.add_le_add_right e2 12) (by omega)
/-- what a call links -/
def gv_cB (M' : gv_MR) (n : Nat) : Prop := Cond.code M'.1 M'.2.1 M'.2.2.1 M'.2.2.2.1 ∈ gv_W ∧ Cond.initialized M'.1.cls ∈ gv_W ∧ M'.2.2.1 ≤ 22 ∧ M'.1.cls ≠ "java/lang/invoke/MethodHandle" ∧ M'.1.cls ≠ "java/lang/invoke/VarHandle" ∧ (parseMethodDescriptor M'.1.desc).map (fun d => d.parameters.length) = some n
def gv_cV (own : String) (idx : Nat) (M' : gv_MR) (n : Nat) : Prop := gv_cB M' n ∧ Cond.methodLink own idx M'.1 ∈ gv_W ∧ Cond.instanceMethod M'.1 ∈ gv_W ∧ Cond.selects M'.1.cls M'.1 M'.1 ∈ gv_W
def gv_cS (own : String) (idx : Nat) (M' : gv_MR) (n : Nat) : Prop := gv_cB M' n ∧ Cond.methodLink own idx M'.1 ∈ gv_W ∧ Cond.static M'.1 ∈ gv_W
def gv_cI (own : String) (idx : Nat) (M' : gv_MR) (n : Nat) : Prop := gv_cB M' n ∧ Cond.methodLink own idx M'.1 ∈ gv_W ∧ Cond.instanceMethod M'.1 ∈ gv_W ∧ M'.1.name = "<init>" ∧ M'.2.2.2.1 = none
def gv_cSN (own : String) (idx : Nat) (M' : gv_MR) (n : Nat) : Prop := gv_cB M' n ∧ (∃ host, Cond.methodLinkNest own idx M'.1 host ∈ lw_tbl) ∧ Cond.static M'.1 ∈ gv_W
def gv_cIN (own : String) (idx : Nat) (M' : gv_MR) (n : Nat) : Prop := gv_cB M' n ∧ (∃ host, Cond.methodLinkNest own idx M'.1 host ∈ lw_tbl) ∧ Cond.instanceMethod M'.1 ∈ gv_W ∧ M'.1.name = "<init>" ∧ M'.2.2.2.1 = none
theorem gv_good {M' : gv_MR} {n : Nat} (h : gv_cB M' n) : GoodIn gv_W (gv_ws M') := by
  intro w hw
  have hm : w ∈ gv_W := by
    rcases List.mem_cons.mp hw with rfl | q
    · exact h.1
    · exact q
  exact ⟨hm, good_of_word (List.mem_filter.mp hm).2⟩
theorem gv_Pc.blind {As : List Value} : FrameBlind (gv_Pc ε As sw) := by
  intro a U g mk h
  exact ⟨h.1, h.2.1.blind, h.2.2.1, h.2.2.2.1, h.2.2.2.2⟩
/-- what the callee finds -/
theorem gv_pre {p : Program} {s : State} {m : MethodId} {args : Array Value} {meth : Method} {c : Code} {H : Heap} {locs : List Loc} {ls : Array Slot} {As : List Value} (C : gv_C ε M n0 p s m args meth c) (I : gv_I ε M n0 s H locs ls L sw cu) (hz : H.size = ε.2.2.2.1 + sw.length) : ∀ U : State, U.heap = H → s.WarmedH U.vm → gv_Pc ε As sw (As.map (gv_v ε)).toArray U := by
  intro U hU hW
  refine ⟨rfl, C.2.2.2.2.2.2.2.2.1.moved hW (fun a h1 h2 => ?_), by rw [hU]; exact hz, by rw [hU]; exact I.1, I.2.2.2.2⟩
  rw [hU]
  exact I.2.1.2.1 a h1 h2
theorem gv_size {p : Program} {e : Env} {s T : State} {m : MethodId} {args : Array Value} {below : List Frame} {meth : Method} {c : Code} {H : Heap} {locs : List Loc} {ls : Array Slot} (C : gv_C ε M n0 p s m args meth c) (I : gv_I ε M n0 s H locs ls L sw cu) (hT : T.heap = H) (X : Stand p ε.1 e R s m args below meth c T locs cu su) : H.size = ε.2.2.2.1 + sw.length := by
  have h1 : H.size ≤ s.heap.size + cu := by rw [← hT]; exact X.heapSize
  have h2 := C.2.2.2.2.2.2.2.2.2
  have h3 := I.2.2.2.1
  have h4 := I.2.1.1
  have h5 : ε.2.2.2.1 + sw.length ≤ H.size := by
    rcases Nat.eq_zero_or_pos sw.length with z | z
    · omega
    · have hk : sw.length - 1 < sw.length := by omega
      have := (I.1 _ _ (gv_w_at (List.getElem?_eq_getElem hk))).lt
      have e1 : gv_as ε (sw.length - 1) = ε.2.2.2.1 + (sw.length - 1) := gv_as_lt (by have := I.2.2.2.2; omega)
      have e2 : gv_as ε (sw.length - 1) < H.size := this
      omega
  omega
/-- behind a call -/
theorem gv_after {p : Program} {e : Env} {s : State} {m : MethodId} {args : Array Value} {below : List Frame} {meth : Method} {c : Code} {H : Heap} {locs : List Loc} {ls : Array Slot} {rest : List Value} {st0 : List Value} {mc ms : Nat} {a : Array Value} (C : gv_C ε M n0 p s m args meth c) (I : gv_I ε M n0 s H locs ls L sw cu)
    (hr : va_Run p ε.1 e R s m args below meth c H locs cu su mc ms (F0 m pc ls st0) (rest.map (gv_v ε)) (gv_Qc ε (sw.length + mc) (fun r sw' => gv_G ε R M n0 Z (pc + 3) L (r.toList ++ rest) sw' (cu + mc) (su + ms)) a) (gv_A ε)) : W p ε.1 e R s m args below meth c H locs cu su (Z s below args) (F0 m pc ls st0) := by
  intro T hT X
  obtain ⟨v, s0, t, T', L2, h0, X', hL, e1, e2, ⟨⟨r, sw', hv, hG, hP, hn1, hn2⟩, hz, hk⟩, stp⟩ := hr T hT X
  cases hv
  rw [h0] at hz hk
  have I' : gv_I ε M n0 s T'.heap (locs ++ L2) ls L sw' (cu + mc) := by
    refine ⟨by rw [e1]; exact hP, ⟨Nat.le_trans I.2.1.1 (by rw [e1]; exact hz), fun q h1 h2 => ?_, fun q hq => ?_⟩, I.2.2.1, by rw [hn1, I.2.2.2.1]; omega, hn2⟩
    · rw [e1, hk q (Nat.lt_of_lt_of_le h1 I.2.1.1) h2]
      exact I.2.1.2.1 q h1 h2
    · rcases List.mem_append.mp hq with h | h
      · exact I.2.1.2.2 q h
      · exact hL q h
  have w := hG p e s m args below meth c C T'.heap (locs ++ L2) ls I' T' rfl X'
  obtain ⟨t2, a1, b1⟩ := w
  refine ⟨t2, stp t2 ?_, b1⟩
  have e4 : (r.toList ++ rest).map (gv_v ε) = (r.map (gv_v ε)).toList ++ rest.map (gv_v ε) := by cases r <;> simp
  rw [e4] at a1
  exact a1
theorem gv_invV {M' : gv_MR} {idx k ci n : Nat} {fs As : List Value} {rest : List Value} {C0 : String} {T0 : u_T} {N0 : Nat} (hd : decode M.2.1 pc = .ok (.invokevirtual idx, 3)) (hw : gv_cV M.1.cls idx M' n) (hn : As.length = n) (hst : st = As.reverse ++ .ref k :: rest) (hthis : sw[k]? = some (.inr (ci, fs))) (hci : vwCl[ci]? = some (C0, T0, N0)) (hC0 : C0 = M'.1.cls) (hR1 : d + 1 ≤ R.frames) (hR2 : 41 * d + 41 ≤ R.locals) (hR3 : cu + M'.2.2.2.2.1 ≤ R.cells) (hR4 : su + M'.2.2.2.2.2 ≤ R.slots) (h8 : (rest.map (fun v => v.category)).sum ≤ 8)
    (hS : gv_S ε d M' (.ref k :: As) sw (fun r sw' => gv_G ε R M n0 Z (pc + 3) L (r.toList ++ rest) sw' (cu + M'.2.2.2.2.1) (su + M'.2.2.2.2.2))) : gv_G ε R M n0 Z pc L st sw cu su := by
  intro p e s m args below meth c C H locs ls I
  subst hst
  subst hC0
  intro T hT X
  have hz := gv_size C I hT X
  obtain ⟨hB, hw1, hw2, hw3⟩ := hw
  obtain ⟨hb1, hb2, hb3, hb4, hb5, hb6⟩ := id hB
  have hts := C.2.2.2.2.2.1
  have e1 : ((rest.map (gv_v ε)).map fun v => v.category) = rest.map (fun v => v.category) := by
    rw [List.map_map]
    exact List.map_congr_left (fun v _ => gv_cat ε v)
  have e2 : (As.reverse ++ .ref k :: rest).map (gv_v ε) = (As.map (gv_v ε)).reverse ++ .ref (gv_as ε k) :: rest.map (gv_v ε) := by
    rw [List.map_append, List.map_reverse]
    rfl
  have cb : CallB R s args M.1.cls idx M'.1 M'.2.1 M'.2.2.1 M'.2.2.2.1 (gv_ws M') (gv_rm d M') M'.2.2.2.2.1 M'.2.2.2.2.2 n := callB_of n hts (gv_good hB) rfl rfl rfl (hts _ hb2) (hts _ hw1) ⟨hb4, hb5, hb6⟩ ⟨hR1, by show 8 + (M'.2.2.1 + 11) + 41 * d ≤ R.locals; omega⟩
  refine gv_after (mc := M'.2.2.2.2.1) (ms := M'.2.2.2.2.2) (rest := rest) C I (va_runV (nL := M.2.2.1) (As := As.map (gv_v ε)) (b := gv_as ε k) ⟨C.1, C.2.1, C.2.2.2.1, C.2.2.2.2.1, hts⟩ hS ⟨cb, hts _ hw2, hts _ hw3⟩ ⟨gv_Pc.blind, va_recv C.2.2.2.2.2.2.2.2.1.1 I.1 hci (gv_w_at hthis), gv_pre C I hz⟩ rfl (by rw [List.length_map]; exact hn) I.2.2.1.1.1 e2 (lv_room (by rw [e1]; exact h8)) hd ⟨hR3, hR4⟩) T hT X
theorem gv_invS {M' : gv_MR} {idx n : Nat} {As : List Value} {rest : List Value} (hd : decode M.2.1 pc = .ok (.invokestatic idx, 3)) (hw : gv_cS M.1.cls idx M' n) (hn : As.length = n) (hst : st = As.reverse ++ rest) (hR1 : d + 1 ≤ R.frames) (hR2 : 41 * d + 41 ≤ R.locals) (hR3 : cu + M'.2.2.2.2.1 ≤ R.cells) (hR4 : su + M'.2.2.2.2.2 ≤ R.slots) (h8 : (rest.map (fun v => v.category)).sum ≤ 8)
    (hS : gv_S ε d M' As sw (fun r sw' => gv_G ε R M n0 Z (pc + 3) L (r.toList ++ rest) sw' (cu + M'.2.2.2.2.1) (su + M'.2.2.2.2.2))) : gv_G ε R M n0 Z pc L st sw cu su := by
  intro p e s m args below meth c C H locs ls I
  subst hst
  intro T hT X
  have hz := gv_size C I hT X
  obtain ⟨hB, hw1, hw2⟩ := hw
  obtain ⟨hb1, hb2, hb3, hb4, hb5, hb6⟩ := id hB
  have hts := C.2.2.2.2.2.1
  have e1 : ((rest.map (gv_v ε)).map fun v => v.category) = rest.map (fun v => v.category) := by
    rw [List.map_map]
    exact List.map_congr_left (fun v _ => gv_cat ε v)
  have e2 : (As.reverse ++ rest).map (gv_v ε) = (As.map (gv_v ε)).reverse ++ rest.map (gv_v ε) := by
    rw [List.map_append, List.map_reverse]
  have cb : CallB R s args M.1.cls idx M'.1 M'.2.1 M'.2.2.1 M'.2.2.2.1 (gv_ws M') (gv_rm d M') M'.2.2.2.2.1 M'.2.2.2.2.2 n := callB_of n hts (gv_good hB) rfl rfl rfl (hts _ hb2) (hts _ hw1) ⟨hb4, hb5, hb6⟩ ⟨hR1, by show 8 + (M'.2.2.1 + 11) + 41 * d ≤ R.locals; omega⟩
  refine gv_after (mc := M'.2.2.2.2.1) (ms := M'.2.2.2.2.2) (rest := rest) C I (va_runS (nL := M.2.2.1) (As := As.map (gv_v ε)) ⟨C.1, C.2.1, C.2.2.2.1, C.2.2.2.2.1, hts⟩ hS ⟨cb, hts _ hw2⟩ ⟨gv_Pc.blind, gv_pre C I hz⟩ rfl (by rw [List.length_map]; exact hn) I.2.2.1.1.1 e2 (lv_room (by rw [e1]; exact h8)) hd ⟨hR3, hR4⟩) T hT X
theorem gv_invSN {M' : gv_MR} {idx n : Nat} {As : List Value} {rest : List Value} (hd : decode M.2.1 pc = .ok (.invokestatic idx, 3)) (hw : gv_cSN M.1.cls idx M' n) (hn : As.length = n) (hst : st = As.reverse ++ rest) (hR1 : d + 1 ≤ R.frames) (hR2 : 41 * d + 41 ≤ R.locals) (hR3 : cu + M'.2.2.2.2.1 ≤ R.cells) (hR4 : su + M'.2.2.2.2.2 ≤ R.slots) (h8 : (rest.map (fun v => v.category)).sum ≤ 8)
    (hS : gv_S ε d M' As sw (fun r sw' => gv_G ε R M n0 Z (pc + 3) L (r.toList ++ rest) sw' (cu + M'.2.2.2.2.1) (su + M'.2.2.2.2.2))) : gv_G ε R M n0 Z pc L st sw cu su := by
  intro p e s m args below meth c C H locs ls I
  subst hst
  intro T hT X
  have hz := gv_size C I hT X
  obtain ⟨hB, ⟨host, hw1⟩, hw2⟩ := hw
  obtain ⟨hb1, hb2, hb3, hb4, hb5, hb6⟩ := id hB
  have hts := C.2.2.2.2.2.1
  have e1 : ((rest.map (gv_v ε)).map fun v => v.category) = rest.map (fun v => v.category) := by
    rw [List.map_map]
    exact List.map_congr_left (fun v _ => gv_cat ε v)
  have e2 : (As.reverse ++ rest).map (gv_v ε) = (As.map (gv_v ε)).reverse ++ rest.map (gv_v ε) := by
    rw [List.map_append, List.map_reverse]
  have cb : va_CN R s args M.1.cls idx M'.1 host M'.2.1 M'.2.2.1 M'.2.2.2.1 (gv_ws M') (gv_rm d M') M'.2.2.2.2.1 M'.2.2.2.2.2 n := va_cnB n hts (gv_good hB) rfl rfl rfl (C.2.2.2.2.2.2.2.2.1.2.1 _ _ _ _ hw1) (hts _ hb2) ⟨hb4, hb5, hb6⟩ ⟨hR1, by show 8 + (M'.2.2.1 + 11) + 41 * d ≤ R.locals; omega⟩
  refine gv_after (mc := M'.2.2.2.2.1) (ms := M'.2.2.2.2.2) (rest := rest) C I (va_runSN (nL := M.2.2.1) (As := As.map (gv_v ε)) ⟨C.1, C.2.1, C.2.2.2.1, C.2.2.2.2.1, hts⟩ hS ⟨cb, hts _ hw2, trivial⟩ ⟨gv_Pc.blind, gv_pre C I hz⟩ rfl (by rw [List.length_map]; exact hn) I.2.2.1.1.1 e2 (lv_room (by rw [e1]; exact h8)) hd ⟨hR3, hR4⟩) T hT X
theorem gv_invI {M' : gv_MR} {idx k n : Nat} {As : List Value} {rest : List Value} (hd : decode M.2.1 pc = .ok (.invokespecial idx, 3)) (hw : gv_cI M.1.cls idx M' n) (hn : As.length = n) (hst : st = As.reverse ++ .ref k :: rest) (hR1 : d + 1 ≤ R.frames) (hR2 : 41 * d + 41 ≤ R.locals) (hR3 : cu + M'.2.2.2.2.1 ≤ R.cells) (hR4 : su + M'.2.2.2.2.2 ≤ R.slots) (h8 : (rest.map (fun v => v.category)).sum ≤ 8)
    (hS : gv_S ε d M' (.ref k :: As) sw (fun r sw' => gv_G ε R M n0 Z (pc + 3) L (r.toList ++ rest) sw' (cu + M'.2.2.2.2.1) (su + M'.2.2.2.2.2))) : gv_G ε R M n0 Z pc L st sw cu su := by
  intro p e s m args below meth c C H locs ls I
  subst hst
  intro T hT X
  have hz := gv_size C I hT X
  obtain ⟨hB, hw1, hw2, hw3, hw4⟩ := hw
  obtain ⟨hb1, hb2, hb3, hb4, hb5, hb6⟩ := id hB
  have hts := C.2.2.2.2.2.1
  have e1 : ((rest.map (gv_v ε)).map fun v => v.category) = rest.map (fun v => v.category) := by
    rw [List.map_map]
    exact List.map_congr_left (fun v _ => gv_cat ε v)
  have e2 : (As.reverse ++ .ref k :: rest).map (gv_v ε) = (As.map (gv_v ε)).reverse ++ .ref (gv_as ε k) :: rest.map (gv_v ε) := by
    rw [List.map_append, List.map_reverse]
    rfl
  have cb : CallB R s args M.1.cls idx M'.1 M'.2.1 M'.2.2.1 none (gv_ws M') (gv_rm d M') M'.2.2.2.2.1 M'.2.2.2.2.2 n := callB_of n hts (gv_good hB) (by unfold gv_ws; rw [hw4]) rfl rfl (hts _ hb2) (hts _ hw1) ⟨hb4, hb5, hb6⟩ ⟨hR1, by show 8 + (M'.2.2.1 + 11) + 41 * d ≤ R.locals; omega⟩
  refine gv_after (mc := M'.2.2.2.2.1) (ms := M'.2.2.2.2.2) (rest := rest) C I (va_runI (nL := M.2.2.1) (As := As.map (gv_v ε)) (b := gv_as ε k) ⟨C.1, C.2.1, C.2.2.2.1, C.2.2.2.2.1, hts⟩ hS ⟨cb, hw3, hts _ hw2⟩ ⟨gv_Pc.blind, gv_pre C I hz⟩ rfl (by rw [List.length_map]; exact hn) I.2.2.1.1.1 e2 (lv_room (by rw [e1]; exact h8)) hd ⟨hR3, hR4⟩) T hT X
theorem gv_invIN {M' : gv_MR} {idx k n : Nat} {As : List Value} {rest : List Value} (hd : decode M.2.1 pc = .ok (.invokespecial idx, 3)) (hw : gv_cIN M.1.cls idx M' n) (hn : As.length = n) (hst : st = As.reverse ++ .ref k :: rest) (hR1 : d + 1 ≤ R.frames) (hR2 : 41 * d + 41 ≤ R.locals) (hR3 : cu + M'.2.2.2.2.1 ≤ R.cells) (hR4 : su + M'.2.2.2.2.2 ≤ R.slots) (h8 : (rest.map (fun v => v.category)).sum ≤ 8)
    (hS : gv_S ε d M' (.ref k :: As) sw (fun r sw' => gv_G ε R M n0 Z (pc + 3) L (r.toList ++ rest) sw' (cu + M'.2.2.2.2.1) (su + M'.2.2.2.2.2))) : gv_G ε R M n0 Z pc L st sw cu su := by
  intro p e s m args below meth c C H locs ls I
  subst hst
  intro T hT X
  have hz := gv_size C I hT X
  obtain ⟨hB, ⟨host, hw1⟩, hw2, hw3, hw4⟩ := hw
  obtain ⟨hb1, hb2, hb3, hb4, hb5, hb6⟩ := id hB
  have hts := C.2.2.2.2.2.1
  have e1 : ((rest.map (gv_v ε)).map fun v => v.category) = rest.map (fun v => v.category) := by
    rw [List.map_map]
    exact List.map_congr_left (fun v _ => gv_cat ε v)
  have e2 : (As.reverse ++ .ref k :: rest).map (gv_v ε) = (As.map (gv_v ε)).reverse ++ .ref (gv_as ε k) :: rest.map (gv_v ε) := by
    rw [List.map_append, List.map_reverse]
    rfl
  have cb : va_CN R s args M.1.cls idx M'.1 host M'.2.1 M'.2.2.1 none (gv_ws M') (gv_rm d M') M'.2.2.2.2.1 M'.2.2.2.2.2 n := va_cnB n hts (gv_good hB) (by unfold gv_ws; rw [hw4]) rfl rfl (C.2.2.2.2.2.2.2.2.1.2.1 _ _ _ _ hw1) (hts _ hb2) ⟨hb4, hb5, hb6⟩ ⟨hR1, by show 8 + (M'.2.2.1 + 11) + 41 * d ≤ R.locals; omega⟩
  refine gv_after (mc := M'.2.2.2.2.1) (ms := M'.2.2.2.2.2) (rest := rest) C I (va_runIN (nL := M.2.2.1) (As := As.map (gv_v ε)) (b := gv_as ε k) ⟨C.1, C.2.1, C.2.2.2.1, C.2.2.2.2.1, hts⟩ hS ⟨cb, hw3, hts _ hw2⟩ ⟨gv_Pc.blind, gv_pre C I hz⟩ rfl (by rw [List.length_map]; exact hn) I.2.2.1.1.1 e2 (lv_room (by rw [e1]; exact h8)) hd ⟨hR3, hR4⟩) T hT X
end GR
