/-! what is made; calls; returns -/
section GN
variable {ε : gv_E} {R : Room} {M : gv_MR} {n0 : Nat} {Z : State → List Frame → Array Value → State → Prop} {pc : Nat} {L : List (Option Value)} {st : List Value} {sw : List va_E} {cu su : Nat}
/-- a new cell comes to stand at the next place -/
theorem gv_next {s : State} {H1 : Heap} {q : Nat} {x : va_E} (h1 : s.heap.size = ε.2.2.2.1 + n0) (h2 : sw.length = n0 + cu) (h3 : sw.length < 1000) (hP : va_P ε.2.1 vwCl (gv_w ε sw ++ [(q, x)]) H1) (hD : va_D (gv_A ε) (gv_w ε sw ++ [(q, x)])) (hz : H1.size ≤ s.heap.size + (cu + 1)) : q = gv_as ε sw.length := by
  have hat : (gv_w ε sw ++ [(q, x)])[sw.length]? = some (q, x) := by
    rw [List.getElem?_append_right (by rw [gv_w_len]; exact Nat.le_refl _), gv_w_len, Nat.sub_self]
    rfl
  have g1 : q < H1.size := (hP _ _ hat).lt
  have g2 : ε.2.2.2.1 ≤ q := hD.2 _ _ hat
  rw [gv_as_lt h3]
  rcases Nat.lt_or_ge q (ε.2.2.2.1 + sw.length) with z | z
  · exfalso
    have hj : q - ε.2.2.2.1 < sw.length := by omega
    have hat2 : (gv_w ε sw ++ [(q, x)])[q - ε.2.2.2.1]? = some (gv_as ε (q - ε.2.2.2.1), gv_e ε sw[q - ε.2.2.2.1]) := by
      rw [List.getElem?_append_left (by rw [gv_w_len]; exact hj)]
      exact gv_w_at (List.getElem?_eq_getElem hj)
    have := hD.1 _ _ _ _ hat2 hat (by show gv_as ε (q - ε.2.2.2.1) = q; rw [gv_as_lt (by omega)]; omega)
    omega
  · omega
def gv_N (own : String) (idx ci : Nat) (fs : List Value) : Prop := ∃ (C : String) (T : u_T) (N : Nat) (ty : Nat → FieldType), vwCl[ci]? = some (C, T, N) ∧ (∀ w ∈ u_ws C T N, w ∈ gv_W) ∧ (∀ k, k < N → parseFieldDescriptor (T k).2.2.1 = some (ty k)) ∧ Cond.classLink own idx C ∈ gv_W ∧ Cond.instantiable C N ∈ gv_W ∧ Cond.initialized C ∈ gv_W ∧ (∀ j, j < N → defaultValue (ty j) = vp_V fs j) ∧ fs.length = N
theorem gv_new {idx ci : Nat} {fs : List Value} (hd : decode M.2.1 pc = .ok (.new idx, 3)) (hw : gv_N M.1.cls idx ci fs) (hfs : fs.map (gv_v ε) = fs) (hlen : sw.length < 1000) (hc : cu + 1 ≤ R.cells) (hs : su + fs.length ≤ R.slots) (kk : gv_G ε R M n0 Z (pc + 3) L (.ref sw.length :: st) (sw ++ [.inr (ci, fs)]) (cu + 1) (su + fs.length)) : gv_G ε R M n0 Z pc L st sw cu su := by
  intro p e s m args below meth c C H locs ls I
  obtain ⟨Cn, T, N, ty, h1, h2, h3, h4, h5, h6, h7, h8⟩ := hw
  subst h8
  refine va_new (D := ε.2.1) C.1 C.2.1 C.2.2.2.2.2.1 h2 ty h3 C.2.2.2.2.1 (C.2.2.2.2.2.1 _ h4) (C.2.2.2.2.2.1 _ h5) (C.2.2.2.2.2.1 _ h6) C.2.2.2.2.2.2.2.2.1.1 I.1 (gv_D I.2.2.2.2) I.2.1 (fun q hq => ?_) h1 h7 hc hs hd (fun q H1 hP hD hS => ?_)
  · show ε.2.2.2.1 ≤ q
    have := C.2.2.2.2.2.2.2.2.2
    omega
  · intro T0 hT X
    have hq := gv_next C.2.2.2.2.2.2.2.2.2 I.2.2.2.1 hlen hP hD (by rw [← hT]; exact X.heapSize)
    subst hq
    refine kk p e s m args below meth c C H1 locs ls ⟨?_, hS, I.2.2.1, by rw [List.length_append]; show sw.length + 1 = _; rw [I.2.2.2.1]; rfl, by rw [List.length_append]; exact hlen⟩ T0 hT X
    rw [gv_w_push]
    show va_P ε.2.1 vwCl (gv_w ε sw ++ [(gv_as ε sw.length, .inr (ci, fs.map (gv_v ε)))]) H1
    rw [hfs]
    exact hP
theorem gv_newint {n : Int32} {N : Nat} (hd : decode M.2.1 pc = .ok (.newarray .int, 2)) (hw : Cond.arrayClass .int ∈ gv_W) (hn : ¬ n < 0) (hN : n.toNatClampNeg = N) (hb : N ≤ 100000) (hlen : sw.length < 1000) (hc : cu + 1 ≤ R.cells) (hs : su + N ≤ R.slots) (kk : gv_G ε R M n0 Z (pc + 2) L (.ref sw.length :: st) (sw ++ [.inl (0, N, .inl (fun _ => 0))]) (cu + 1) (su + N)) : gv_G ε R M n0 Z pc L (.int n :: st) sw cu su := by
  intro p e s m args below meth c C H locs ls I
  refine va_newa (D := ε.2.1) (atype := .int) (ty := .int) (a0 := (N, .inl (fun _ => 0))) C.1 C.2.1 (C.2.2.2.2.2.1 _ hw) rfl C.2.2.2.2.2.2.2.2.1.1 I.1 (gv_D I.2.2.2.2) I.2.1 (fun q hq => ?_) (fun cA => rfl) hn hN (by show N * 4 ≤ 536870912; omega) hc hs hd (fun q cA H1 hK hP hD hS => ?_)
  · show ε.2.2.2.1 ≤ q
    have := C.2.2.2.2.2.2.2.2.2
    omega
  · intro T0 hT X
    have hq := gv_next C.2.2.2.2.2.2.2.2.2 I.2.2.2.1 hlen hP hD (by rw [← hT]; exact X.heapSize)
    subst hq
    have hcA : cA = ε.2.2.1 0 := by
      have a1 : s.vm.findClass ("[" ++ FieldType.int.toString) = some cA := (hK.2 3 (cA, .int) rfl).2
      have a2 : s.vm.findClass ("[" ++ FieldType.int.toString) = some (ε.2.2.1 0) := (C.2.2.2.2.2.2.2.2.1.1.2 0 (ε.2.2.1 0, .int) rfl).2
      exact Option.some.inj (a1.symm.trans a2)
    subst hcA
    refine kk p e s m args below meth c C H1 locs ls ⟨?_, hS, I.2.2.1, by rw [List.length_append]; show sw.length + 1 = _; rw [I.2.2.2.1]; rfl, by rw [List.length_append]; exact hlen⟩ T0 hT X
    rw [gv_w_push]
    exact hP
theorem gv_newbool {n : Int32} {N : Nat} (hd : decode M.2.1 pc = .ok (.newarray .boolean, 2)) (hw : Cond.arrayClass .boolean ∈ gv_W) (hn : ¬ n < 0) (hN : n.toNatClampNeg = N) (hb : N ≤ 100000) (hlen : sw.length < 1000) (hc : cu + 1 ≤ R.cells) (hs : su + N ≤ R.slots) (kk : gv_G ε R M n0 Z (pc + 2) L (.ref sw.length :: st) (sw ++ [.inl (1, N, .inl (fun _ => 0))]) (cu + 1) (su + N)) : gv_G ε R M n0 Z pc L (.int n :: st) sw cu su := by
  intro p e s m args below meth c C H locs ls I
  refine va_newa (D := ε.2.1) (atype := .boolean) (ty := .boolean) (a0 := (N, .inl (fun _ => 0))) C.1 C.2.1 (C.2.2.2.2.2.1 _ hw) rfl C.2.2.2.2.2.2.2.2.1.1 I.1 (gv_D I.2.2.2.2) I.2.1 (fun q hq => ?_) (fun cA => rfl) hn hN (by show N * 1 ≤ 536870912; omega) hc hs hd (fun q cA H1 hK hP hD hS => ?_)
  · show ε.2.2.2.1 ≤ q
    have := C.2.2.2.2.2.2.2.2.2
    omega
  · intro T0 hT X
    have hq := gv_next C.2.2.2.2.2.2.2.2.2 I.2.2.2.1 hlen hP hD (by rw [← hT]; exact X.heapSize)
    subst hq
    have hcA : cA = ε.2.2.1 1 := by
      have a1 : s.vm.findClass ("[" ++ FieldType.boolean.toString) = some cA := (hK.2 3 (cA, .boolean) rfl).2
      have a2 : s.vm.findClass ("[" ++ FieldType.boolean.toString) = some (ε.2.2.1 1) := (C.2.2.2.2.2.2.2.2.1.1.2 1 (ε.2.2.1 1, .boolean) rfl).2
      exact Option.some.inj (a1.symm.trans a2)
    subst hcA
    refine kk p e s m args below meth c C H1 locs ls ⟨?_, hS, I.2.2.1, by rw [List.length_append]; show sw.length + 1 = _; rw [I.2.2.2.1]; rfl, by rw [List.length_append]; exact hlen⟩ T0 hT X
    rw [gv_w_push]
    exact hP
theorem gv_newrefs {idx : Nat} {n : Int32} {N : Nat} (hd : decode M.2.1 pc = .ok (.anewarray idx, 3)) (hw : Cond.classLink M.1.cls idx RX4 ∈ gv_W) (hn : ¬ n < 0) (hN : n.toNatClampNeg = N) (hb : N ≤ 100000) (hlen : sw.length < 1000) (hc : cu + 1 ≤ R.cells) (hs : su + N ≤ R.slots) (kk : gv_G ε R M n0 Z (pc + 3) L (.ref sw.length :: st) (sw ++ [.inl (2, N, .inr (.inr (.inr (.inr (fun _ => none)))))]) (cu + 1) (su + N)) : gv_G ε R M n0 Z pc L (.int n :: st) sw cu su := by
  intro p e s m args below meth c C H locs ls I
  refine va_newq (D := ε.2.1) (C := RX4) C.1 C.2.1 C.2.2.2.2.1 (C.2.2.2.2.2.1 _ hw) C.2.2.2.2.2.2.2.2.1.2.2.2.1 C.2.2.2.2.2.2.2.2.1.1 I.1 (gv_D I.2.2.2.2) I.2.1 (fun q hq => ?_) hn hN (by omega) hc hs hd (fun q cA H1 hK hP hD hS => ?_)
  · show ε.2.2.2.1 ≤ q
    have := C.2.2.2.2.2.2.2.2.2
    omega
  · intro T0 hT X
    have hq := gv_next C.2.2.2.2.2.2.2.2.2 I.2.2.2.1 hlen hP hD (by rw [← hT]; exact X.heapSize)
    subst hq
    have hcA : cA = ε.2.2.1 2 := by
      obtain ⟨-, -, -, -, -, a1⟩ := (hK.2 3 (cA, .object RX4) rfl).2
      obtain ⟨-, -, -, -, -, a2⟩ := (C.2.2.2.2.2.2.2.2.1.1.2 2 (ε.2.2.1 2, .object RX4) rfl).2
      exact Option.some.inj (a1.symm.trans a2)
    subst hcA
    refine kk p e s m args below meth c C H1 locs ls ⟨?_, hS, I.2.2.1, by rw [List.length_append]; show sw.length + 1 = _; rw [I.2.2.2.1]; rfl, by rw [List.length_append]; exact hlen⟩ T0 hT X
    rw [gv_w_push]
    exact hP
theorem gv_arraycopy {idx k0 k1 m0 m1 : Nat} {f g : Nat → Int32} {sp dp n : Int32} (hd : decode M.2.1 pc = .ok (.invokestatic idx, 3)) (hw : Cond.methodLink M.1.cls idx arraycopyName ∈ gv_W ∧ Cond.native arraycopyName ∈ gv_W ∧ Cond.static arraycopyName ∈ gv_W ∧ Cond.initialized "java/lang/System" ∈ gv_W) (h0 : sw[k0]? = some (.inl (0, m0, .inl f))) (h1 : sw[k1]? = some (.inl (0, m1, .inl g))) (q1 : ¬ sp < 0) (q2 : ¬ dp < 0) (q3 : ¬ n < 0) (q4 : sp.toNatClampNeg + n.toNatClampNeg ≤ m0) (q5 : dp.toNatClampNeg + n.toNatClampNeg ≤ m1) (hR : 1 ≤ R.frames ∧ 41 ≤ R.locals) (hst : (st.map (fun v => v.category)).sum ≤ 8)
    (kk : gv_G ε R M n0 Z (pc + 3) L st (sw.set k1 (.inl (0, m1, .inl (va_cpy f g sp.toNatClampNeg dp.toNatClampNeg n.toNatClampNeg)))) cu su) : gv_G ε R M n0 Z pc L (.int n :: .int dp :: .ref k1 :: .int sp :: .ref k0 :: st) sw cu su := by
  intro p e s m args below meth c C H locs ls I
  refine va_copyi (D := ε.2.1) (ty := .int) C.1 C.2.1 (by rw [C.2.2.2.1]; exact I.2.2.1.1.1.symm) C.2.2.2.2.1 (C.2.2.2.2.2.1 _ hw.1) (C.2.2.2.2.2.1 _ hw.2.1) (C.2.2.2.2.2.1 _ hw.2.2.1) (C.2.2.2.2.2.1 _ hw.2.2.2) C.2.2.2.2.2.2.2.2.1.1 I.1 (gv_D I.2.2.2.2) I.2.1 k0 k1 0 0 (gv_w_at h0) (gv_w_at h1) rfl rfl rfl q1 q2 q3 q4 q5 (fun _ _ => rfl) hR.1 ?_ hd (fun H1 locs1 hP hD hS => kk p e s m args below meth c C H1 locs1 ls (gv_stored I.2.2.1 I.2.2.2.1 I.2.2.2.2 hP hS))
  have e1 : ((st.map (gv_v ε)).map fun v => v.category) = st.map (fun v => v.category) := by
    rw [List.map_map]
    exact List.map_congr_left (fun v _ => gv_cat ε v)
  rw [e1]
  have e2 : nativeFrameWords "java/lang/System" "arraycopy" 5 ≤ 20 := by decide +kernel
  omega
end GN
