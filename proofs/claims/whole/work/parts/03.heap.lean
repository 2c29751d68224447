/-! the rules of the heap, calls and returns -/
section GH
variable {ε : gv_E} {R : Room} {M : gv_MR} {n0 : Nat} {Z : State → List Frame → Array Value → State → Prop} {pc : Nat} {L : List (Option Value)} {st : List Value} {sw : List va_E} {cu su : Nat}
/-- a field's link: the class's number, the field's -/
def gv_F (own : String) (idx ci k : Nat) : Prop := ∃ (C : String) (T : u_T) (N : Nat) (ty : Nat → FieldType), vwCl[ci]? = some (C, T, N) ∧ k < N ∧ (∀ w ∈ u_ws C T N, w ∈ gv_W) ∧ Cond.fieldLink own idx (T k).1 (T k).2.1 (T k).2.2.1 ∈ gv_W ∧ (∀ k, k < N → parseFieldDescriptor (T k).2.2.1 = some (ty k)) ∧ ∀ a, a < N → ∀ b, b < N → a ≠ b → (T a).2.1 ≠ (T b).2.1
theorem gv_getfield {idx ci fk k : Nat} {fs : List Value} {v : Value} (hd : decode M.2.1 pc = .ok (.getfield idx, 3)) (hw : gv_F M.1.cls idx ci fk) (hk : sw[k]? = some (.inr (ci, fs))) (hv : fs[fk]? = some v) (kk : gv_G ε R M n0 Z (pc + 3) L (v :: st) sw cu su) : gv_G ε R M n0 Z pc L (.ref k :: st) sw cu su := by
  intro p e s m args below meth c C H locs ls I
  obtain ⟨Cn, T, N, ty, h1, h2, h3, h4, h5, h6⟩ := hw
  exact va_get (D := ε.2.1) (v := gv_v ε v) C.1 C.2.1 C.2.2.2.2.2.1 h3 C.2.2.2.2.1 C.2.2.2.2.2.2.2.2.1.1 I.1 k (gv_w_at hk) h1 fk h2 (C.2.2.2.2.2.1 _ h4) (fun _ h => h) (by simp [hv]) hd (kk p e s m args below meth c C H locs ls I)
/-- the same, of a nest mate -/
def gv_FN (own : String) (idx ci k : Nat) : Prop := ∃ (C : String) (T : u_T) (N : Nat) (host : String), vwCl[ci]? = some (C, T, N) ∧ k < N ∧ (∀ w ∈ u_ws C T N, w ∈ gv_W) ∧ Cond.fieldLinkNest own idx (T k).1 (T k).2.1 (T k).2.2.1 host ∈ lw_tbl
theorem gv_getfieldN {idx ci fk k : Nat} {fs : List Value} {v : Value} (hd : decode M.2.1 pc = .ok (.getfield idx, 3)) (hw : gv_FN M.1.cls idx ci fk) (hk : sw[k]? = some (.inr (ci, fs))) (hv : fs[fk]? = some v) (kk : gv_G ε R M n0 Z (pc + 3) L (v :: st) sw cu su) : gv_G ε R M n0 Z pc L (.ref k :: st) sw cu su := by
  intro p e s m args below meth c C H locs ls I
  obtain ⟨Cn, T, N, host, h1, h2, h3, h4⟩ := hw
  exact va_getN (D := ε.2.1) (v := gv_v ε v) C.1 C.2.1 C.2.2.2.2.2.1 h3 C.2.2.2.2.1 C.2.2.2.2.2.2.2.2.1.1 I.1 k (gv_w_at hk) h1 fk h2 (va_Nw.use rfl (C.2.2.2.2.2.2.2.2.1.2.2.1 _ _ _ _ _ _ h4)) (fun _ h => h) (by simp [hv]) hd (kk p e s m args below meth c C H locs ls I)
/-- what may be put: its kind -/
def gv_P (own : String) (idx ci k : Nat) (v : Value) : Prop := ∃ (C : String) (T : u_T) (N : Nat) (ty : Nat → FieldType), vwCl[ci]? = some (C, T, N) ∧ k < N ∧ (∀ w ∈ u_ws C T N, w ∈ gv_W) ∧ Cond.fieldLink own idx (T k).1 (T k).2.1 (T k).2.2.1 ∈ gv_W ∧ (∀ k, k < N → parseFieldDescriptor (T k).2.2.1 = some (ty k)) ∧ (∀ a, a < N → ∀ b, b < N → a ≠ b → (T a).2.1 ≠ (T b).2.1) ∧ narrow (ty k) v = v ∧ fits (ty k) v = true ∧ ((T k).2.2.2 = false ∨ (T k).1 = own)
theorem gv_putfield {idx ci fk k : Nat} {fs : List Value} {v : Value} (hd : decode M.2.1 pc = .ok (.putfield idx, 3)) (hw : gv_P M.1.cls idx ci fk (gv_v ε v)) (hin : (∃ (C : String) (T : u_T) (N : Nat), vwCl[ci]? = some (C, T, N) ∧ (T fk).2.2.2 = false) ∨ M.1.name = "<init>") (hk : sw[k]? = some (.inr (ci, fs))) (hv : fk < fs.length) (kk : gv_G ε R M n0 Z (pc + 3) L st (sw.set k (.inr (ci, fs.set fk v))) cu su) : gv_G ε R M n0 Z pc L (v :: .ref k :: st) sw cu su := by
  intro p e s m args below meth c C H locs ls I
  obtain ⟨Cn, T, N, ty, h1, h2, h3, h4, h5, h6, h7, h8, h9⟩ := hw
  have fin : ∀ (H1 : Heap) (locs1 : List Loc), va_P ε.2.1 vwCl ((gv_w ε sw).set k (gv_as ε k, .inr (ci, (fs.map (gv_v ε)).set fk (gv_v ε v)))) H1 → va_D (gv_A ε) ((gv_w ε sw).set k (gv_as ε k, .inr (ci, (fs.map (gv_v ε)).set fk (gv_v ε v)))) → va_S (gv_A ε) s.heap H1 locs1 → W p ε.1 e R s m args below meth c H1 locs1 cu su (Z s below args) (F0 m (pc + 3) ls (st.map (gv_v ε))) := by
    intro H1 locs1 hP hD hS
    refine kk p e s m args below meth c C H1 locs1 ls ⟨?_, hS, I.2.2.1, by rw [List.length_set]; exact I.2.2.2.1, by rw [List.length_set]; exact I.2.2.2.2⟩
    rw [gv_w_set]
    show va_P ε.2.1 vwCl ((gv_w ε sw).set k (gv_as ε k, .inr (ci, (fs.set fk v).map (gv_v ε)))) H1
    rw [List.map_set]
    exact hP
  have hlen : fk < (fs.map (gv_v ε)).length := by rw [List.length_map]; exact hv
  by_cases hf : (T fk).2.2.2 = false
  · exact va_put (D := ε.2.1) (ty := ty fk) C.1 C.2.1 C.2.2.2.2.2.1 h3 ty h5 h6 C.2.2.2.2.1 C.2.2.2.2.2.2.2.2.1.1 I.1 (gv_D I.2.2.2.2) I.2.1 k (gv_w_at hk) h1 fk h2 (C.2.2.2.2.2.1 _ h4) (fun _ h => h) hf (h5 fk h2) h7 h8 hlen hd fin
  · have hin2 : meth.name = "<init>" := by
      rcases hin with ⟨C', T', N', q1, q2⟩ | q
      · cases h1.symm.trans q1
        exact absurd q2 hf
      · exact C.2.2.2.2.2.2.2.1 q
    have hdecl : (T fk).1 = M.1.cls := h9.resolve_left hf
    exact va_putF (D := ε.2.1) (ty := ty fk) C.1 C.2.1 C.2.2.2.2.2.1 h3 ty h5 h6 C.2.2.2.2.1 C.2.2.2.2.2.2.2.2.1.1 I.1 (gv_D I.2.2.2.2) I.2.1 k (gv_w_at hk) h1 fk h2 (C.2.2.2.2.2.1 _ h4) (fun _ h => h) (by simpa using hf) hin2 hdecl (h5 fk h2) h7 h8 hlen hd fin
/-! arrays -/
theorem gv_iaload {k n : Nat} {f : Nat → Int32} {i : Int32} (hd : decode M.2.1 pc = .ok (.iaload, 1)) (hk : sw[k]? = some (.inl (0, n, .inl f))) (hi : vp_in i n) (kk : gv_G ε R M n0 Z (pc + 1) L (.int (f i.toNatClampNeg) :: st) sw cu su) : gv_G ε R M n0 Z pc L (.int i :: .ref k :: st) sw cu su := by
  intro p e s m args below meth c C H locs ls I
  exact va_iald (D := ε.2.1) C.1 C.2.1 C.2.2.2.2.2.2.2.2.1.1 I.1 k 0 (gv_w_at hk) rfl hi hd (kk p e s m args below meth c C H locs ls I)
theorem gv_baload {k n : Nat} {f : Nat → Int32} {i : Int32} (hd : decode M.2.1 pc = .ok (.baload, 1)) (hk : sw[k]? = some (.inl (1, n, .inl f))) (hi : vp_in i n) (kk : gv_G ε R M n0 Z (pc + 1) L (.int (f i.toNatClampNeg) :: st) sw cu su) : gv_G ε R M n0 Z pc L (.int i :: .ref k :: st) sw cu su := by
  intro p e s m args below meth c C H locs ls I
  exact va_zald (D := ε.2.1) C.1 C.2.1 C.2.2.2.2.2.2.2.2.1.1 I.1 k 1 (gv_w_at hk) rfl hi hd (kk p e s m args below meth c C H locs ls I)
theorem gv_aaload {k n r : Nat} {f : Nat → Option Nat} {i : Int32} (hd : decode M.2.1 pc = .ok (.aaload, 1)) (hk : sw[k]? = some (.inl (2, n, .inr (.inr (.inr (.inr f)))))) (hi : vp_in i n) (hr : f i.toNatClampNeg = some r) (kk : gv_G ε R M n0 Z (pc + 1) L (.ref r :: st) sw cu su) : gv_G ε R M n0 Z pc L (.int i :: .ref k :: st) sw cu su := by
  intro p e s m args below meth c C H locs ls I
  refine va_aldq (D := ε.2.1) C.1 C.2.1 C.2.2.2.2.2.2.2.2.1.1 I.1 k 2 (gv_w_at hk) rfl hi hd ?_
  rw [hr]
  exact kk p e s m args below meth c C H locs ls I
theorem gv_alen {k n : Nat} {f0 : Nat → Int32} (hd : decode M.2.1 pc = .ok (.arraylength, 1)) (hk : sw[k]? = some (.inl (0, n, .inl f0))) (kk : gv_G ε R M n0 Z (pc + 1) L (.int (nI n) :: st) sw cu su) : gv_G ε R M n0 Z pc L (.ref k :: st) sw cu su := by
  intro p e s m args below meth c C H locs ls I
  exact va_alen (D := ε.2.1) C.1 C.2.1 C.2.2.2.2.2.2.2.2.1.1 I.1 k 0 (gv_w_at hk) rfl rfl hd (kk p e s m args below meth c C H locs ls I)
/-- a stored cell -/
theorem gv_stored {s : State} {H1 : Heap} {locs1 : List Loc} {ls : Array Slot} {k : Nat} {e : va_E} (I2 : gv_has ε ls M.2.2.1 L) (I3 : sw.length = n0 + cu) (I4 : sw.length ≤ 1000) (hP : va_P ε.2.1 vwCl ((gv_w ε sw).set k (gv_as ε k, gv_e ε e)) H1) (hS : va_S (gv_A ε) s.heap H1 locs1) : gv_I ε M n0 s H1 locs1 ls L (sw.set k e) cu :=
  ⟨by rw [gv_w_set]; exact hP, hS, I2, by rw [List.length_set]; exact I3, by rw [List.length_set]; exact I4⟩
theorem gv_iastore {k n : Nat} {f : Nat → Int32} {i x : Int32} (hd : decode M.2.1 pc = .ok (.iastore, 1)) (hk : sw[k]? = some (.inl (0, n, .inl f))) (hi : vp_in i n) (kk : gv_G ε R M n0 Z (pc + 1) L st (sw.set k (.inl (0, n, .inl (upd f i.toNatClampNeg x)))) cu su) : gv_G ε R M n0 Z pc L (.int x :: .int i :: .ref k :: st) sw cu su := by
  intro p e s m args below meth c C H locs ls I
  exact va_iast (D := ε.2.1) C.1 C.2.1 C.2.2.2.2.2.2.2.2.1.1 I.1 (gv_D I.2.2.2.2) I.2.1 k 0 (gv_w_at hk) rfl hi hd (fun H1 locs1 hP hD hS => kk p e s m args below meth c C H1 locs1 ls (gv_stored I.2.2.1 I.2.2.2.1 I.2.2.2.2 hP hS))
theorem gv_bastore {k n : Nat} {f : Nat → Int32} {i x : Int32} (hd : decode M.2.1 pc = .ok (.bastore, 1)) (hk : sw[k]? = some (.inl (1, n, .inl f))) (hi : vp_in i n) (kk : gv_G ε R M n0 Z (pc + 1) L st (sw.set k (.inl (1, n, .inl (upd f i.toNatClampNeg (vp_nar .boolean x))))) cu su) : gv_G ε R M n0 Z pc L (.int x :: .int i :: .ref k :: st) sw cu su := by
  intro p e s m args below meth c C H locs ls I
  exact va_zast (D := ε.2.1) C.1 C.2.1 C.2.2.2.2.2.2.2.2.1.1 I.1 (gv_D I.2.2.2.2) I.2.1 k 1 (gv_w_at hk) rfl hi hd (fun H1 locs1 hP hD hS => kk p e s m args below meth c C H1 locs1 ls (gv_stored I.2.2.1 I.2.2.2.1 I.2.2.2.2 hP hS))
theorem gv_aastore {k n v : Nat} {fs : List Value} {f : Nat → Option Nat} {i : Int32} (hd : decode M.2.1 pc = .ok (.aastore, 1)) (hk : sw[k]? = some (.inl (2, n, .inr (.inr (.inr (.inr f)))))) (hi : vp_in i n) (hv : sw[v]? = some (.inr (4, fs))) (kk : gv_G ε R M n0 Z (pc + 1) L st (sw.set k (.inl (2, n, .inr (.inr (.inr (.inr (va_up f i.toNatClampNeg (some v)))))))) cu su) : gv_G ε R M n0 Z pc L (.ref v :: .int i :: .ref k :: st) sw cu su := by
  intro p e s m args below meth c C H locs ls I
  refine va_astq (D := ε.2.1) C.1 C.2.1 C.2.2.2.2.2.2.2.2.1.1 I.1 (gv_D I.2.2.2.2) I.2.1 k 2 v 4 (r := (RX4, TX4, 5)) (gv_w_at hk) rfl (gv_w_at hv) rfl hi hd (fun H1 locs1 hP hD hS => kk p e s m args below meth c C H1 locs1 ls (gv_stored I.2.2.1 I.2.2.2.1 I.2.2.2.2 ?_ hS))
  have e2 : gv_e ε (.inl (2, n, .inr (.inr (.inr (.inr (va_up f i.toNatClampNeg (some v))))))) = .inl (ε.2.2.1 2, n, .inr (.inr (.inr (.inr (va_up (fun j => (f j).map (gv_as ε)) i.toNatClampNeg (some (gv_as ε v))))))) := by
    show Sum.inl (ε.2.2.1 2, n, Sum.inr (Sum.inr (Sum.inr (Sum.inr (fun j => (va_up f i.toNatClampNeg (some v) j).map (gv_as ε)))))) = _
    congr 7
    funext j
    unfold va_up
    split <;> rfl
  rw [e2]
  exact hP
/-! the arrays that nobody writes -/
theorem gv_getstatic {idx j : Nat} (hd : decode M.2.1 pc = .ok (.getstatic idx, 3)) (hj : j < 3) (hw : Cond.fieldLink M.1.cls idx RX7 (gv_nm j) "[I" ∈ gv_W) (kk : gv_G ε R M n0 Z (pc + 3) L (.ref (1000 + j) :: st) sw cu su) : gv_G ε R M n0 Z pc L st sw cu su := by
  intro p e s m args below meth c C H locs ls I
  refine va_gets C.1 C.2.1 (C.2.2.2.2.2.2.2.2.1.2.2.2.2.1 j hj) I.2.1 C.2.2.2.2.1 (C.2.2.2.2.2.1 _ hw) (fun _ h => h) hd ?_
  have := kk p e s m args below meth c C H locs ls I
  have e3 : gv_v ε (.ref (1000 + j)) = .ref (ε.2.2.2.2.1 j) := by
    show Value.ref (gv_as ε (1000 + j)) = _
    unfold gv_as
    rw [if_neg (by omega), Nat.add_sub_cancel_left]
  rw [List.map_cons, e3] at this
  exact this
theorem gv_xload {j : Nat} {i : Int32} (hd : decode M.2.1 pc = .ok (.iaload, 1)) (hj : j < 4) (hi : vp_in i (gv_x ε j).1) (kk : gv_G ε R M n0 Z (pc + 1) L (.int ((gv_x ε j).2 i.toNatClampNeg) :: st) sw cu su) : gv_G ε R M n0 Z pc L (.int i :: .ref (1000 + j) :: st) sw cu su := by
  intro p e s m args below meth c C H locs ls I
  have e3 : gv_v ε (.ref (1000 + j)) = .ref (ε.2.2.2.2.1 j) := by
    show Value.ref (gv_as ε (1000 + j)) = _
    unfold gv_as
    rw [if_neg (by omega), Nat.add_sub_cancel_left]
  rw [List.map_cons, List.map_cons, e3]
  exact va_ti C.1 C.2.1 (C.2.2.2.2.2.2.2.2.1.2.2.2.2.2 j hj) I.2.1 hi rfl hd (kk p e s m args below meth c C H locs ls I)
theorem gv_xlen {j : Nat} (hd : decode M.2.1 pc = .ok (.arraylength, 1)) (hj : j < 4) (kk : gv_G ε R M n0 Z (pc + 1) L (.int (nI (gv_x ε j).1) :: st) sw cu su) : gv_G ε R M n0 Z pc L (.ref (1000 + j) :: st) sw cu su := by
  intro p e s m args below meth c C H locs ls I
  have e3 : gv_v ε (.ref (1000 + j)) = .ref (ε.2.2.2.2.1 j) := by
    show Value.ref (gv_as ε (1000 + j)) = _
    unfold gv_as
    rw [if_neg (by omega), Nat.add_sub_cancel_left]
  rw [List.map_cons, e3]
  exact va_tlen C.1 C.2.1 (C.2.2.2.2.2.2.2.2.1.2.2.2.2.2 j hj) I.2.1 rfl hd (kk p e s m args below meth c C H locs ls I)
end GH
