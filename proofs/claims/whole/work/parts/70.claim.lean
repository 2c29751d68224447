/-! THE CLAIM OUT OF ONE WALK OF THE LAW'S BODY. Your part is whole_start (and what it stands on); all else here is the same for every law, but numbers. -/
def R_law : String := "StrikePassesLaw"
def lw_P (b : Addr) (xs : List Int32) (args : Array Value) (s : State) : Prop := args = #[.ref b] ∧ s.IntsAt b xs ∧ xs.length ≤ 2048 ∧ (Jvm.Cond.and given_1 narrow_1).before args s = true
def lw_Q (_ : Array Value) (s : State) (o : Outcome) (t : State) : Prop := o = .returned (some (.int 1)) ∧ Framed s o t [] 600000 7302250
def lw_Z (below : List Frame) (a : Array Value) (s : State) : State → Prop := fun t => ∃ o, t.status = .running ∧ Ended t below o ∧ lw_Q a s o t
/-- the law's own end, with 1 on the stack, nothing written that was there before, its room as the claim has it -/
theorem lw_ret {p : Program} {l : Launch} {e : Env} {s : State} {m : MethodId} {below : List Frame} {meth : Method} {c : Code} {b : Nat} (hx : p.tables.exec = Jvm.exec) (hb : c.code = code) (hr : meth.sig.returnType = ret) (hlocks : meth.locks = false) {pc : Nat} {H : Heap} {ls : Array Slot} (hdg : decode code pc = .ok (.ireturn, 1)) : W p l e room_1 s m #[Value.ref b] below meth c H [] 600000 7302250 (lw_Z below #[Value.ref b] s) (F0 m pc ls [.int 1]) := by
  intro T hT X
  obtain ⟨fs, hret, hrun, hended, hW, hframe⟩ := X.leave (v := some (.int 1)) (hlocks := hlocks) (fun h => by rw [hr] at h; cases h)
  have hmeth' : T.vm.method? m = some meth := X.method'
  refine ⟨T.setFrames fs, ?_, .returned (some (.int 1)), hrun, hended, rfl, ⟨_, rfl⟩, hW, hframe⟩
  jvm_step X.here [X.here.top, hx, hb, hdg, hmeth', hr, ret, narrow_b1]
  (try refine ⟨rfl, ?_⟩); (try refine ⟨rfl, ?_⟩)
  first | (intro acts; rw [hret _ acts rfl rfl rfl]) | rw [hret _ _ rfl rfl rfl]
  exact Steps.refl _
/-- what holds at the law's entry: the machine, the code, the tables' words (any of lw_tbl by 'hts w (by decide +kernel)'), the script of L ints xs at the cell b, what the Statement gives of the start (any of its parts by flat_of_before) -/
def lw_At (p : Program) (s : State) (m : MethodId) (meth : Method) (c : Code) (b L : Nat) (xs : Nat → Int32) : Prop :=
  p.tables.exec = Jvm.exec ∧ c.code = code ∧ meth.sig.returnType = ret ∧ c.maxLocals = 4 ∧ s.vm.findClass R_law = some m.cls ∧ (∀ w ∈ lw_tbl, w.before #[Value.ref b] s = true) ∧ va_X b L xs s s.heap ∧ b < s.heap.size ∧ meth.locks = false ∧ (Jvm.Cond.and given_1 narrow_1).before #[Value.ref b] s = true
-- ===== YOUR PART BEGINS =====
theorem lw_retA {p : Program} {l : Launch} {e : Env} {s : State} {m : MethodId} {below : List Frame} {meth : Method} {c : Code} {args : Array Value} (hx : p.tables.exec = Jvm.exec) (hb : c.code = code) (hr : meth.sig.returnType = ret) (hlocks : meth.locks = false) {pc : Nat} {H : Heap} {ls : Array Slot} (hdg : decode code pc = .ok (.ireturn, 1)) : W p l e room_1 s m args below meth c H [] 600000 7302250 (lw_Z below args s) (F0 m pc ls [.int 1]) := by
  intro T hT X
  obtain ⟨fs, hret, hrun, hended, hW, hframe⟩ := X.leave (v := some (.int 1)) (hlocks := hlocks) (fun h => by rw [hr] at h; cases h)
  have hmeth' : T.vm.method? m = some meth := X.method'
  refine ⟨T.setFrames fs, ?_, .returned (some (.int 1)), hrun, hended, rfl, ⟨_, rfl⟩, hW, hframe⟩
  jvm_step X.here [X.here.top, hx, hb, hdg, hmeth', hr, ret, narrow_b1]
  (try refine ⟨rfl, ?_⟩); (try refine ⟨rfl, ?_⟩)
  first | (intro acts; rw [hret _ acts rfl rfl rfl]) | rw [hret _ _ rfl rfl rfl]
  exact Steps.refl _
/-- YOUR PART: from the entry, for every script of at most 2048 ints, the law comes to its end with true ('hflags': the launch's flags, for a law that throws: no stack traces) -/
theorem whole_start {p : Program} {e : Env} {s : State} {m : MethodId} {below : List Frame} {meth : Method} {c : Code} (l : Launch) (hflags : l.flags = flags0) {b L : Nat} {xs : Nat → Int32} (hL : L ≤ 2048) (C0 : lw_At p s m meth c b L xs) : W p l e room_1 s m #[Value.ref b] below meth c s.heap [] 0 0 (lw_Z below #[Value.ref b] s) (entryFrame m ([Value.ref b] : List Value).toArray 4) := by
  obtain ⟨hx, hb, hr, hml, hown, hts, hX, hbl, hlocks, hgv⟩ := id C0
  have hgW : ∀ w ∈ gv_W, w.before #[Value.ref b] s = true := fun w hw => hts w (List.mem_filter.mp hw).1
  obtain ⟨c0, d0, k0⟩ := u_known hgW gi_X0 (hts (.instantiable RX0 9) (by decide +kernel))
  obtain ⟨c1, d1, k1⟩ := u_known hgW gi_X1 (hts (.instantiable RX1 2) (by decide +kernel))
  obtain ⟨c2, d2, k2⟩ := u_known hgW gi_X2 (hts (.instantiable RX2 4) (by decide +kernel))
  obtain ⟨c3, d3, k3⟩ := u_known hgW gi_X3 (hts (.instantiable RX3 6) (by decide +kernel))
  obtain ⟨c4, d4, k4⟩ := u_known hgW gi_X4 (hts (.instantiable RX4 5) (by decide +kernel))
  obtain ⟨c5, d5, k5⟩ := u_known hgW gi_X5 (hts (.instantiable RX5 3) (by decide +kernel))
  obtain ⟨c6, d6, k6⟩ := u_known hgW gi_X6 (hts (.instantiable RX6 1) (by decide +kernel))
  obtain ⟨c7, d7, k7⟩ := u_known hgW gi_X7 (hts (.instantiable RX7 10) (by decide +kernel))
  obtain ⟨c8, d8, k8⟩ := u_known hgW gi_X8 (hts (.instantiable RX8 20) (by decide +kernel))
  obtain ⟨aI, aI1, aI2⟩ := gv_arr (ty := .int) (fun C h => by cases h) (hts (.arrayClass .int) (by decide +kernel))
  obtain ⟨aZ, aZ1, aZ2⟩ := gv_arr (ty := .boolean) (fun C h => by cases h) (hts (.arrayClass .boolean) (by decide +kernel))
  obtain ⟨aO, aO1, aO2⟩ := gv_arrO (C := RX4) (hts (.arrayOver (.object RX4)) (by decide +kernel))
  have hfl := flat_of_before _ hgv
  have stat : ∀ (nm : String) (f : Nat → Int32), (Cond.arrayOf (.static RX7 nm "[I") .int).before #[Value.ref b] s = true → (Cond.eq (.length (.static RX7 nm "[I")) (.int 3)).before #[Value.ref b] s = true → (∀ j, j < 3 → (Cond.eq (.elem (.static RX7 nm "[I") (.int (Int32.ofNat j))) (.int (f j))).before #[Value.ref b] s = true) → (Cond.laysStatic RX7 nm "[I").before #[Value.ref b] s = true → ∃ t : Nat, va_Z RX7 nm "[I" (.ref t) (fun q => s.heap.size ≤ q) s s.heap ∧ va_T .int t 3 (fun i => .int (f i)) (fun q => s.heap.size ≤ q) s s.heap := by
    intro nm f h1 h2 h3 h4
    obtain ⟨t, e1, e2⟩ := va_Tof (A := fun q => s.heap.size ≤ q) (N := 3) (f := fun i => .int (f i)) (by decide) h1 (va_eqt h2) (fun j hj => va_eqt (h3 j hj)) (fun a ha => Nat.not_le.mpr ha)
    exact ⟨t, va_Zof h4 (hts (.initialized RX7) (by decide +kernel)) e1 (fun a ha => Nat.not_le.mpr ha), e2⟩
  obtain ⟨t0, z0, y0⟩ := stat "AT_FIRST" (gv_t3 2 1 12) (hfl _ (by decide +kernel)) (hfl _ (by decide +kernel)) (fun j hj => by
    match j, hj with
    | 0, _ => exact hfl _ (by decide +kernel)
    | 1, _ => exact hfl _ (by decide +kernel)
    | 2, _ => exact hfl _ (by decide +kernel)
    | j + 3, hj => omega) (hts _ (by decide +kernel))
  obtain ⟨t1, z1, y1⟩ := stat "LEAST" (gv_t3 0 0 1) (hfl _ (by decide +kernel)) (hfl _ (by decide +kernel)) (fun j hj => by
    match j, hj with
    | 0, _ => exact hfl _ (by decide +kernel)
    | 1, _ => exact hfl _ (by decide +kernel)
    | 2, _ => exact hfl _ (by decide +kernel)
    | j + 3, hj => omega) (hts _ (by decide +kernel))
  obtain ⟨t2, z2, y2⟩ := stat "GREATEST" (gv_t3 4 9 72) (hfl _ (by decide +kernel)) (hfl _ (by decide +kernel)) (fun j hj => by
    match j, hj with
    | 0, _ => exact hfl _ (by decide +kernel)
    | 1, _ => exact hfl _ (by decide +kernel)
    | 2, _ => exact hfl _ (by decide +kernel)
    | j + 3, hj => omega) (hts _ (by decide +kernel))
  have y3 : va_T .int b L (fun i => .int (xs i)) (fun q => s.heap.size ≤ q) s s.heap := by
    obtain ⟨scr, g1, g2, g3, g4, g5⟩ := hX
    exact ⟨scr, g1, g2, g3, Nat.le_of_eq g4.symm, by rw [g4] <;> rfl, g5, Nat.not_le.mpr hbl⟩
  let ε : gv_E := (l, (fun c => match c with | 0 => c0 | 1 => c1 | 2 => c2 | 3 => c3 | 4 => c4 | 5 => c5 | 6 => c6 | 7 => c7 | _ => c8, fun c => match c with | 0 => d0 | 1 => d1 | 2 => d2 | 3 => d3 | 4 => d4 | 5 => d5 | 6 => d6 | 7 => d7 | _ => d8), (fun k => match k with | 0 => aI | 1 => aZ | _ => aO), s.heap.size, (fun j => match j with | 0 => t0 | 1 => t1 | 2 => t2 | _ => b), L, xs)
  have hK : va_K ε.2.1 vwCl (gv_tys ε) s := by
    refine ⟨fun c q hq => ?_, fun k q hq => ?_⟩
    · match c, hq with
      | 0, hq => cases hq; exact k0
      | 1, hq => cases hq; exact k1
      | 2, hq => cases hq; exact k2
      | 3, hq => cases hq; exact k3
      | 4, hq => cases hq; exact k4
      | 5, hq => cases hq; exact k5
      | 6, hq => cases hq; exact k6
      | 7, hq => cases hq; exact k7
      | 8, hq => cases hq; exact k8
      | c + 9, hq => cases hq
    · match k, hq with
      | 0, hq => cases hq; exact ⟨aI1, aI2⟩
      | 1, hq => cases hq; exact ⟨aZ1, aZ2⟩
      | 2, hq => cases hq; exact ⟨aO1, aO2⟩
      | k + 3, hq => cases hq
  have hGX : gv_X ε s := by
    refine ⟨hK, fun a i x h hm => va_Nw.of rfl (hts _ hm), fun a i b n d h hm => va_Nw.of rfl (hts _ hm), hts (.arrayOver (.object RX4)) (by decide +kernel), fun j hj => ?_, fun j hj => ?_⟩
    · match j, hj with
      | 0, _ => exact z0
      | 1, _ => exact z1
      | 2, _ => exact z2
      | j + 3, hj => omega
    · match j, hj with
      | 0, _ => exact y0
      | 1, _ => exact y1
      | 2, _ => exact y2
      | 3, _ => exact y3
      | j + 4, hj => omega
  have hC : gv_C ε m_L_law 0 p s m #[Value.ref b] meth c := ⟨hx, hb, hr, hml, hown, hgW, hlocks, (fun h => absurd h (by decide)), hGX, rfl⟩
  have hend : ∀ (i : Nat) (sw : List va_E), gv_G ε room_1 m_L_law 0 (fun s' below' args' => lw_Z below' args' s') 920 [some (.ref 1003), some (.ref 0), some (.ref 44), some (.int (nI i))] [] sw 55 1869 := by
    intro i sw
    refine t_L_law_920 ?_
    intro p e s' m args below meth c C H locs ls I
    refine va_forget (fun q hq => ?_) ?_
    · have h1 := I.2.1.2.2 q hq
      have h2 := C.2.2.2.2.2.2.2.2.2
      have h1 : s.heap.size ≤ q.base := h1
      have h2 : s'.heap.size = s.heap.size + 0 := h2
      omega
    · refine W.widen (k := 600000) (n := 7302250) (by decide) (by decide) ?_
      exact lw_retA C.1 C.2.1 C.2.2.1 C.2.2.2.2.2.2.1 (by decide +kernel)
  have main := law_all (ε := ε) (Z := fun s' below' args' => lw_Z below' args' s') hL hend p e s m #[Value.ref b] below meth c hC s.heap []
  have hE := gv_entry (ε := ε) (As := [.ref 1003]) (n := 4) (fun v hv => by rw [List.mem_singleton.mp hv]; rfl) (by decide)
  rw [lg_entry_eq]
  exact main _ ⟨fun k q hk => (by cases hk), va_S.rf, hE, rfl, Nat.zero_le _⟩
-- ===== YOUR PART ENDS =====
set_option maxHeartbeats 4000000 in
theorem lw_walk (l : Launch) (hflags : l.flags = flags0) (b : Addr) (xs : List Int32) : MetFree l x (headSpec (Jvm.Cond.code x code maxLocals ret :: tables_1) room_1) (lw_P b xs) (fun _ _ _ _ _ => True) lw_Q := by
  refine MetFree.of_bodyS (code := code) (maxLocals := maxLocals) (ret := ret) (by decide) ?_ ?_
  · intro args s m h hn
    obtain ⟨meth, c, h1, h2, h3, h4, h5, h6, -, -⟩ := Cond.code_spec hn (atoms_spec (ws := Jvm.Cond.code x code maxLocals ret :: tables_1) h _ List.mem_cons_self)
    exact ⟨meth, c, h1, h2, h3, h4, h5, h6⟩
  · intro p e s m args below meth c s₁ B hml0 hP _
    obtain ⟨rfl, hx, hbd, hgv⟩ := hP
    obtain ⟨scr, harrAt, hlist, hof, hsmall⟩ := hx
    obtain ⟨hcb, hkn, -, -⟩ := State.arrayAt?_spec harrAt
    have hown : s.vm.findClass R_law = some m.cls := findClass_of_methodNamed B.named
    have hts0 : ∀ c ∈ (Jvm.Cond.code x code maxLocals ret :: tables_1), c.before #[Value.ref b] s = true := atoms_spec (ws := Jvm.Cond.code x code maxLocals ret :: tables_1) B.pre
    have hts : ∀ w ∈ lw_tbl, w.before #[Value.ref b] s = true := k2_hts_sels lw_privs (fun w hw => hts0 w (List.mem_cons_of_mem _ hw)) lw_privs_ok
    have hml : c.maxLocals = 4 := B.maxLocals_eq (hts0 _ List.mem_cons_self)
    have X₀ : Stand p l e room_1 s m #[Value.ref b] below meth c s₁ [] 0 0 := Stand.of_body B
    have hh0 : s₁.heap = s.heap := by rw [B.state]; rfl
    have hsz : scr.slots.size = xs.length := by rw [← Array.length_toList, hlist, List.length_map]
    have hval : ∀ j : Nat, j < xs.length → scr.slots[j]? = some (.int (xs.getD j 0)) := fun j hj => by
      rw [← Array.getElem?_toList, hlist]
      simp [hj]
    have hbl : b < s.heap.size := (Array.getElem?_eq_some_iff.mp hcb).1
    have hX : va_X b xs.length (fun j => xs.getD j 0) s s.heap := ⟨scr, hcb, hof, hkn, hsz, hval⟩
    have K : W p l e room_1 s m #[Value.ref b] below meth c s₁.heap [] 0 0 (lw_Z below #[Value.ref b] s) (entryFrame m ([Value.ref b] : List Value).toArray 4) := by
      rw [hh0]
      exact whole_start l hflags hbd ⟨B.exec, B.bytes, B.returns, hml, hown, hts, hX, hbl, B.notSynchronized, hgv⟩
    obtain ⟨t, a1, o, b1, b2, b3⟩ := K s₁ rfl X₀
    exact ⟨t, o, a1, b1, b2, b3⟩
theorem lw_pre_spec {args : Array Value} {s : State} (h : (Jvm.Cond.and given_1 narrow_1).before args s = true) (hr : rest_1_c.before args s = true) : ∃ (b : Addr) (xs : List Int32), lw_P b xs args s := by
  have hs := flat_of_before _ h
  have hq := flat_of_before _ hr
  have hc : (Cond.count 1).before args s = true := hs _ (by decide +kernel)
  have harr : (Cond.arrayOf (.arg 0) .int).before args s = true := hs _ (by decide +kernel)
  have hle : (Cond.le (.length (.arg 0)) (.int 2048)).before args s = true := hs _ (by decide +kernel)
  have hlen : (Cond.isInt (.length (.arg 0))).before args s = true := hq _ (by decide +kernel)
  have hall : (Cond.all (.arg 0) (.isInt (.elem (.arg 0) (.index 0)))).before args s = true := hq _ (by decide +kernel)
  obtain ⟨b, xs, hb, hx⟩ := State.ints_of_pre rfl harr hlen hall
  have hsm : xs.length < 2 ^ 31 := hx.choose_spec.2.2.2
  have hev : (Term.length (.arg 0)).eval args s none [] s = some (.int xs.length.toInt32) := hx.length_eval hb
  have hv := Cond.le_ints hev (show (Term.int 2048).eval args s none [] s = some (.int 2048) from rfl)
  have hd : xs.length.toInt32 ≤ 2048 := by
    simpa [Cond.before, Cond.holds, hv] using hle
  have hN : xs.length ≤ 2048 := (Int32.ofNat_le_ofNat hsm (by decide)).mp (show Int32.ofNat xs.length ≤ Int32.ofNat 2048 from hd)
  exact ⟨b, xs, Cond.one_arg hc (show args[0]? = some (.ref b) from hb), hx, hN, h⟩
theorem lw_comes (l : Launch) (hflags : l.flags = flags0) : Comes l x (Jvm.Cond.code x code maxLocals ret :: tables_1) room_1 (fun tb e args s => Calls_1 tb e args s ∧ rest_1 tb e args s ∧ Pre_1 tb e args s)
    (fun _ _ args s o t => lw_Q args s o t) := by
  intro p e ha hc hk s m args below hf hfit hheap happ hpre
  obtain ⟨b, xs, hP⟩ := lw_pre_spec hpre.2.2 hpre.2.1
  obtain ⟨k, o, h1, h2, h3, hQ⟩ := lw_walk l hflags b xs p e ha hc hk s m args below hf ((Spec.applies_iff_loose hf).mp happ).1 hP trivial
  exact ⟨k, o, h1, h2, h3, hQ⟩
theorem lw_frame {s t : State} {o : Outcome} {args : Array Value} (h : Framed s o t [] 600000 7302250) :
    Framed s o t (fieldLocs frame_1_writes args s ++ arrayLocs frame_1_arrays args s ++ staticLocs frame_1_statics s) 600000 7302250 := h
theorem lw_limb (L : Cond) (hL : ∀ (args : Array Value) (s t : State), L.after args s (.returned (some (.int 1))) t = true) :
    ArmFor flags0 classFile x code maxLocals ret World_1 tables_1 room_1 Calls_1 rest_1 Pre_1
      (fun tb e a s o t => postC L tb e a s o t ∧ Framed s o t (fieldLocs frame_1_writes a s ++ arrayLocs frame_1_arrays a s ++ staticLocs frame_1_statics s) 600000 7302250) := by
  intro l hflags _ _ p e ha hc hk s m args below hf hfit hheap happ hpre
  obtain ⟨k, o, h1, h2, h3, rfl, hF⟩ := lw_comes l hflags p e ha hc hk s m args below hf hfit hheap happ hpre
  exact ⟨k, _, h1, h2, h3, hL args s _, lw_frame hF⟩
theorem i_vc : Claimed_1_1 ∧ Claimed_1_2 := ⟨lw_limb limb_1_1 (fun args s t => by simp [limb_1_1, Cond.after, Cond.holds, Cond.value]), lw_limb limb_1_2 (fun args s t => Cond.after_iff.mpr (by
  first | (rw [show limb_1_2 = Cond.eq .result (.int 1) from rfl, Cond.eq_ints (x := 1) (y := 1) rfl rfl]; simp; done) | (simp [limb_1_2, Cond.value, Term.eval]; done)))⟩
