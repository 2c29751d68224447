/-! rules with places by natural numbers -/
section GQ
variable {ε : gv_E} {R : Room} {M : gv_MR} {n0 : Nat} {Z : State → List Frame → Array Value → State → Prop} {pc : Nat} {L : List (Option Value)} {st : List Value} {sw : List va_E} {cu su : Nat}
theorem gv_getstaticN {idx j : Nat} {host : String} (hd : decode M.2.1 pc = .ok (.getstatic idx, 3)) (hj : j < 3) (hw : Cond.fieldLinkNest M.1.cls idx RX7 (gv_nm j) "[I" host ∈ lw_tbl) (kk : gv_G ε R M n0 Z (pc + 3) L (.ref (1000 + j) :: st) sw cu su) : gv_G ε R M n0 Z pc L st sw cu su := by
  intro p e s m args below meth c C H locs ls I
  refine va_getsN C.1 C.2.1 (C.2.2.2.2.2.2.2.2.1.2.2.2.2.1 j hj) I.2.1 C.2.2.2.2.1 (va_Nw.use rfl (C.2.2.2.2.2.2.2.2.1.2.2.1 _ _ _ _ _ _ hw)) (fun _ h => h) hd ?_
  have := kk p e s m args below meth c C H locs ls I
  have e3 : gv_v ε (.ref (1000 + j)) = .ref (ε.2.2.2.2.1 j) := by
    show Value.ref (gv_as ε (1000 + j)) = _
    unfold gv_as
    rw [if_neg (by omega), Nat.add_sub_cancel_left]
  rw [List.map_cons, e3] at this
  exact this
theorem gv_ialoadJ {k n : Nat} {f : Nat → Int32} {i : Int32} (hd : decode M.2.1 pc = .ok (.iaload, 1)) (hk : sw[k]? = some (.inl (0, n, .inl f))) (j : Nat) (hj : j < n) (hi : i = nI j) (hn : n < 2 ^ 31) (kk : gv_G ε R M n0 Z (pc + 1) L (.int (f j) :: st) sw cu su) : gv_G ε R M n0 Z pc L (.int i :: .ref k :: st) sw cu su := by
  subst hi
  refine gv_iaload hd hk (vp_in_nI hj hn) ?_
  rw [nI_clamp (by omega)]
  exact kk
theorem gv_iastoreJ {k n : Nat} {f : Nat → Int32} {i x : Int32} (hd : decode M.2.1 pc = .ok (.iastore, 1)) (hk : sw[k]? = some (.inl (0, n, .inl f))) (j : Nat) (hj : j < n) (hi : i = nI j) (hn : n < 2 ^ 31) (kk : gv_G ε R M n0 Z (pc + 1) L st (sw.set k (.inl (0, n, .inl (upd f j x)))) cu su) : gv_G ε R M n0 Z pc L (.int x :: .int i :: .ref k :: st) sw cu su := by
  subst hi
  refine gv_iastore hd hk (vp_in_nI hj hn) ?_
  rw [nI_clamp (by omega)]
  exact kk
theorem gv_xloadJ {j : Nat} {i : Int32} (hd : decode M.2.1 pc = .ok (.iaload, 1)) (hj : j < 4) (q : Nat) (hq : q < (gv_x ε j).1) (hi : i = nI q) (hn : (gv_x ε j).1 < 2 ^ 31) (kk : gv_G ε R M n0 Z (pc + 1) L (.int ((gv_x ε j).2 q) :: st) sw cu su) : gv_G ε R M n0 Z pc L (.int i :: .ref (1000 + j) :: st) sw cu su := by
  subst hi
  refine gv_xload hd hj (vp_in_nI hq hn) ?_
  rw [nI_clamp (by omega)]
  exact kk
end GQ
theorem gv_dflt (N : Nat) (ty : Nat → FieldType) (fs : List Value) (h : (List.range N).all (fun j => decide (defaultValue (ty j) = vp_V fs j)) = true) : ∀ j, j < N → defaultValue (ty j) = vp_V fs j := fun j hj => of_decide_eq_true (List.all_eq_true.mp h j (List.mem_range.mpr hj))
