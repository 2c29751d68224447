/-! rules with places by natural numbers -/
section GQ
variable {ε : gv_E} {R : Room} {M : gv_MR} {n0 : Nat} {Z : State → List Frame → Array Value → State → Prop} {pc : Nat} {L : List (Option Value)} {st : List Value} {sw : List va_E} {cu su : Nat}
theorem gv_getstaticN {idx j : Nat} {host : String} (hd : decode M.2.1 pc = .ok (.getstatic idx, 3)) (hj : j < 3) (hw : Cond.fieldLinkNest M.1.cls idx RX7 (gv_nm j) "[I" host ∈ lw_tbl) (kk : gv_G ε R M n0 Z (pc + 3) L (.ref (1000 + j) :: st) sw cu su) : gv_G ε R M n0 Z pc L st sw cu su := by
  intro p e s m args below meth c C H locs ls I
  refine va_getsN C.1 C.2.1 (C.2.2.2.2.2.2.2.2.1.2.2.2.2.1 j hj) I.2.1 C.2.2.2.2.1 (va_Nw.use rfl (C.2.2.2.2.2.2.2.2.1.2.2.1 _ _ _ _ _ _ hw)) (fun _ h => h) hd ?_
  have := kk p e s m args below meth c C H locs ls I
  have e3 : gv_v ε (.ref (1000 + j)) = .ref (ε.2.2.2.2.1 j) := by
    show Value.ref (gv_as ε (1000 + j)) = _
    unfold gv_as
    rw [if_neg (by omega), Nat.add_sub_cancel_left]
  rw [List.map_cons, e3] at this
  exact this
theorem gv_ialoadJ {k n : Nat} {f : Nat → Int32} {i : Int32} (hd : decode M.2.1 pc = .ok (.iaload, 1)) (hk : sw[k]? = some (.inl (0, n, .inl f))) (j : Nat) (hj : j < n) (hi : i = nI j) (hn : n < 2 ^ 31) (kk : gv_G ε R M n0 Z (pc + 1) L (.int (f j) :: st) sw cu su) : gv_G ε R M n0 Z pc L (.int i :: .ref k :: st) sw cu su := by
  subst hi
  refine gv_iaload hd hk (vp_in_nI hj hn) ?_
  rw [nI_clamp (by omega)]
  exact kk
theorem gv_iastoreJ {k n : Nat} {f : Nat → Int32} {i x : Int32} (hd : decode M.2.1 pc = .ok (.iastore, 1)) (hk : sw[k]? = some (.inl (0, n, .inl f))) (j : Nat) (hj : j < n) (hi : i = nI j) (hn : n < 2 ^ 31) (kk : gv_G ε R M n0 Z (pc + 1) L st (sw.set k (.inl (0, n, .inl (upd f j x)))) cu su) : gv_G ε R M n0 Z pc L (.int x :: .int i :: .ref k :: st) sw cu su := by
  subst hi
  refine gv_iastore hd hk (vp_in_nI hj hn) ?_
  rw [nI_clamp (by omega)]
  exact kk
theorem gv_xloadJ {j : Nat} {i : Int32} (hd : decode M.2.1 pc = .ok (.iaload, 1)) (hj : j < 4) (q : Nat) (hq : q < (gv_x ε j).1) (hi : i = nI q) (hn : (gv_x ε j).1 < 2 ^ 31) (kk : gv_G ε R M n0 Z (pc + 1) L (.int ((gv_x ε j).2 q) :: st) sw cu su) : gv_G ε R M n0 Z pc L (.int i :: .ref (1000 + j) :: st) sw cu su := by
  subst hi
  refine gv_xload hd hj (vp_in_nI hq hn) ?_
  rw [nI_clamp (by omega)]
  exact kk
theorem gv_mmax {idx : Nat} {x y : Int32} (hd : decode M.2.1 pc = .ok (.invokestatic idx, 3)) (hw : Cond.methodLink M.1.cls idx Lib.Math.max.name ∈ gv_W ∧ Cond.static Lib.Math.max.name ∈ gv_W ∧ Cond.initialized "java/lang/Math" ∈ gv_W ∧ Cond.code Lib.Math.max.name Lib.Math.max.code 2 (some .int) ∈ gv_W) (hR : 1 ≤ R.frames ∧ 41 ≤ R.locals) (hst : (st.map (fun v => v.category)).sum ≤ 8) (hc : cu ≤ R.cells) (hs : su ≤ R.slots) (kk : gv_G ε R M n0 Z (pc + 3) L (.int (if x < y then y else x) :: st) sw cu su) : gv_G ε R M n0 Z pc L (.int y :: .int x :: st) sw cu su := by
  intro p e s m args below meth c C H locs ls I
  refine va_mmax C.1 C.2.1 (by rw [C.2.2.2.1]; exact I.2.2.1.1.1.symm) C.2.2.2.2.1 (C.2.2.2.2.2.1 _ hw.1) (C.2.2.2.2.2.1 _ hw.2.1) (C.2.2.2.2.2.1 _ hw.2.2.1) (C.2.2.2.2.2.1 _ hw.2.2.2) hR.1 ?_ hc hs hd (kk p e s m args below meth c C H locs ls I)
  have e1 : ((st.map (gv_v ε)).map fun v => v.category) = st.map (fun v => v.category) := by
    rw [List.map_map]
    exact List.map_congr_left (fun v _ => gv_cat ε v)
  rw [e1]
  have := hR.2
  omega
theorem gv_mmin {idx : Nat} {x y : Int32} (hd : decode M.2.1 pc = .ok (.invokestatic idx, 3)) (hw : Cond.methodLink M.1.cls idx Lib.Math.min.name ∈ gv_W ∧ Cond.static Lib.Math.min.name ∈ gv_W ∧ Cond.initialized "java/lang/Math" ∈ gv_W ∧ Cond.code Lib.Math.min.name Lib.Math.min.code 2 (some .int) ∈ gv_W) (hR : 1 ≤ R.frames ∧ 41 ≤ R.locals) (hst : (st.map (fun v => v.category)).sum ≤ 8) (hc : cu ≤ R.cells) (hs : su ≤ R.slots) (kk : gv_G ε R M n0 Z (pc + 3) L (.int (if y < x then y else x) :: st) sw cu su) : gv_G ε R M n0 Z pc L (.int y :: .int x :: st) sw cu su := by
  intro p e s m args below meth c C H locs ls I
  refine va_mmin C.1 C.2.1 (by rw [C.2.2.2.1]; exact I.2.2.1.1.1.symm) C.2.2.2.2.1 (C.2.2.2.2.2.1 _ hw.1) (C.2.2.2.2.2.1 _ hw.2.1) (C.2.2.2.2.2.1 _ hw.2.2.1) (C.2.2.2.2.2.1 _ hw.2.2.2) hR.1 ?_ hc hs hd (kk p e s m args below meth c C H locs ls I)
  have e1 : ((st.map (gv_v ε)).map fun v => v.category) = st.map (fun v => v.category) := by
    rw [List.map_map]
    exact List.map_congr_left (fun v _ => gv_cat ε v)
  rw [e1]
  have := hR.2
  omega
theorem gv_mabs {idx : Nat} {x : Int32} (hd : decode M.2.1 pc = .ok (.invokestatic idx, 3)) (hw : Cond.methodLink M.1.cls idx Lib.Math.abs.name ∈ gv_W ∧ Cond.static Lib.Math.abs.name ∈ gv_W ∧ Cond.initialized "java/lang/Math" ∈ gv_W ∧ Cond.code Lib.Math.abs.name Lib.Math.abs.code 1 (some .int) ∈ gv_W) (hR : 1 ≤ R.frames ∧ 41 ≤ R.locals) (hst : (st.map (fun v => v.category)).sum ≤ 8) (hc : cu ≤ R.cells) (hs : su ≤ R.slots) (kk : gv_G ε R M n0 Z (pc + 3) L (.int (if 0 ≤ x then x else 0 - x) :: st) sw cu su) : gv_G ε R M n0 Z pc L (.int x :: st) sw cu su := by
  intro p e s m args below meth c C H locs ls I
  refine va_mabs C.1 C.2.1 (by rw [C.2.2.2.1]; exact I.2.2.1.1.1.symm) C.2.2.2.2.1 (C.2.2.2.2.2.1 _ hw.1) (C.2.2.2.2.2.1 _ hw.2.1) (C.2.2.2.2.2.1 _ hw.2.2.1) (C.2.2.2.2.2.1 _ hw.2.2.2) hR.1 ?_ hc hs hd (kk p e s m args below meth c C H locs ls I)
  have e1 : ((st.map (gv_v ε)).map fun v => v.category) = st.map (fun v => v.category) := by
    rw [List.map_map]
    exact List.map_congr_left (fun v _ => gv_cat ε v)
  rw [e1]
  have := hR.2
  omega
theorem gv_maxN {x y : Nat} (hx : x < 2 ^ 31) (hy : y < 2 ^ 31) : (if nI x < nI y then nI y else nI x) = nI (max x y) := by
  by_cases h : x < y
  · rw [if_pos ((nI_ltI hx hy).mpr h), Nat.max_eq_right (by omega)]
  · rw [if_neg (fun q => h ((nI_ltI hx hy).mp q)), Nat.max_eq_left (by omega)]
theorem gv_minN {x y : Nat} (hx : x < 2 ^ 31) (hy : y < 2 ^ 31) : (if nI y < nI x then nI y else nI x) = nI (min x y) := by
  by_cases h : y < x
  · rw [if_pos ((nI_ltI hy hx).mpr h), Nat.min_eq_right (by omega)]
  · rw [if_neg (fun q => h ((nI_ltI hy hx).mp q)), Nat.min_eq_left (by omega)]
end GQ
theorem gv_dflt (N : Nat) (ty : Nat → FieldType) (fs : List Value) (h : (List.range N).all (fun j => decide (defaultValue (ty j) = vp_V fs j)) = true) : ∀ j, j < N → defaultValue (ty j) = vp_V fs j := fun j hj => of_decide_eq_true (List.all_eq_true.mp h j (List.mem_range.mpr hj))
