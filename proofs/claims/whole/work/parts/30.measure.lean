/-! whole numbers, below 0 too -/
def zI (z : Int) : Int32 := Int32.ofInt z
theorem zI_toInt {z : Int} (h1 : -1000000 ≤ z) (h2 : z ≤ 1000000) : (zI z).toInt = z := by
  unfold zI
  rw [Int32.toInt_ofInt]
  rw [show Int32.size = 4294967296 from rfl]
  rw [Int.bmod_eq_of_le (by omega) (by omega)]
theorem zI_nI {n : Nat} (h : n ≤ 1000000) : nI n = zI (n : Int) := by
  apply Int32.toInt_inj.mp
  rw [nI_toInt (by omega), zI_toInt (by omega) (by omega)]
theorem zI_lt {a b : Int} (ha : -1000000 ≤ a ∧ a ≤ 1000000) (hb : -1000000 ≤ b ∧ b ≤ 1000000) : zI a < zI b ↔ a < b := by
  rw [Int32.lt_iff_toInt_lt, zI_toInt ha.1 ha.2, zI_toInt hb.1 hb.2]
theorem zI_le {a b : Int} (ha : -1000000 ≤ a ∧ a ≤ 1000000) (hb : -1000000 ≤ b ∧ b ≤ 1000000) : zI a ≤ zI b ↔ a ≤ b := by
  rw [Int32.le_iff_toInt_le, zI_toInt ha.1 ha.2, zI_toInt hb.1 hb.2]
theorem zI_add (a b : Int) : zI a + zI b = zI (a + b) := (Int32.ofInt_add a b).symm
theorem zI_sub (a b : Int) : zI a - zI b = zI (a - b) := (Int32.ofInt_sub a b).symm
theorem zI_m24 : (-24 : Int32) = zI (-24) := by decide
theorem zI_0 : (0 : Int32) = zI 0 := by decide
/-- where the head stands -/
def hdZ (st k c : Nat) : Int := if k % 2 = 0 then (c : Int) else (c : Int) - st
theorem hdZ_bd {st k c : Nat} (h1 : st ≤ 4) (h2 : c < 24) : -4 ≤ hdZ st k c ∧ hdZ st k c ≤ 23 := by
  unfold hdZ
  split <;> omega
theorem headI_z {s : shT} (h : s.1 0 ≤ 4) {k c : Nat} (hc : c < 24) : headI s k c = zI (hdZ (s.1 0) k c) := by
  unfold headI hdZ
  split
  · exact zI_nI (by omega)
  · rw [zI_nI (by omega), zI_nI (by omega), zI_sub]
theorem headR_z {r : Nat → Nat} (h : r 0 ≤ 4) {k c : Nat} (hc : c < 24) : headR r k c = zI (hdZ (r 0) k c) := by
  unfold headR hdZ
  split
  · exact zI_nI (by omega)
  · rw [zI_nI (by omega), zI_nI (by omega), zI_sub]
/-- the span of a pass, needle by needle, column by column -/
noncomputable def loZ (J : Nat → Nat) (r st p : Nat) : Nat → Int
  | 0 => 24
  | q + 1 => if layB J r (q / 24) p (q % 24) = true ∧ hdZ st (q / 24) (q % 24) < loZ J r st p q then hdZ st (q / 24) (q % 24) else loZ J r st p q
noncomputable def hiZ (J : Nat → Nat) (r st p : Nat) : Nat → Int
  | 0 => -24
  | q + 1 => if layB J r (q / 24) p (q % 24) = true ∧ hiZ J r st p q < hdZ st (q / 24) (q % 24) then hdZ st (q / 24) (q % 24) else hiZ J r st p q
theorem loZ_bd {J : Nat → Nat} {r st p : Nat} (h : st ≤ 4) : ∀ q, -4 ≤ loZ J r st p q ∧ loZ J r st p q ≤ 24 := by
  intro q
  induction q with
  | zero => unfold loZ; omega
  | succ q ih =>
    unfold loZ
    have := hdZ_bd (st := st) (k := q / 24) h (c := q % 24) (by omega)
    split <;> omega
theorem hiZ_bd {J : Nat → Nat} {r st p : Nat} (h : st ≤ 4) : ∀ q, -24 ≤ hiZ J r st p q ∧ hiZ J r st p q ≤ 23 := by
  intro q
  induction q with
  | zero => unfold hiZ; omega
  | succ q ih =>
    unfold hiZ
    have := hdZ_bd (st := st) (k := q / 24) h (c := q % 24) (by omega)
    split <;> omega
theorem layB_cong {J J' : Nat → Nat} {r k p : Nat} (h : ∀ c, c < 24 → J c = J' c) : ∀ c, c < 24 → layB J r k p c = layB J' r k p c := by
  intro c hc
  unfold layB
  rw [← dotB_cong h k c hc]
  by_cases q : dotB J k c = true
  · rw [pas_cong (dotB_cong h k) c hc q]
  · have : dotB J k c = false := by simpa using q
    rw [this, Bool.false_and, Bool.false_and]
theorem loZ_cong {J J' : Nat → Nat} {r st p : Nat} (h : ∀ c, c < 24 → J c = J' c) : ∀ q, loZ J r st p q = loZ J' r st p q := by
  intro q
  induction q with
  | zero => rfl
  | succ q ih =>
    unfold loZ
    rw [ih, layB_cong h (q % 24) (by omega)]
theorem hiZ_cong {J J' : Nat → Nat} {r st p : Nat} (h : ∀ c, c < 24 → J c = J' c) : ∀ q, hiZ J r st p q = hiZ J' r st p q := by
  intro q
  induction q with
  | zero => rfl
  | succ q ih =>
    unfold hiZ
    rw [ih, layB_cong h (q % 24) (by omega)]
/-! the course's cells -/
def coG (am lf rg tn al ar : Nat → Int32) (a b c : Int32) : List va_E := [.inr (0, [.ref 28, .ref 29, .ref 30, .ref 31, .ref 32, .ref 33, .int a, .int b, .int c]), .inl (0, 4, .inl am), .inl (0, 40, .inl lf), .inl (0, 40, .inl rg), .inl (0, 40, .inl tn), .inl (0, 40, .inl al), .inl (0, 40, .inl ar)]
theorem scr.co {sw sw' : List va_E} (h : scr sw) {am lf rg tn al ar : Nat → Int32} {a b c : Int32} (h1 : wt 27 (coG am lf rg tn al ar a b c) sw') (hs : same 27 7 sw sw') : scr sw' := by
  obtain ⟨J0, A0, lt0, co, h2, h3, -⟩ := h
  exact ⟨J0, A0, lt0, (fun j => match j with | 0 => am | 1 => lf | 2 => rg | 3 => tn | 4 => al | _ => ar, fun j => match j with | 0 => a | 1 => b | _ => c), h2.keep hs rfl, h3.keep hs rfl, h1⟩
theorem scr.mk {sw : List va_E} {J : Nat → Nat} {A : Nat → Int32} {lt : Nat → Nat} {am lf rg tn al ar : Nat → Int32} {a b c : Int32} (h1 : wt 22 (stF J) sw) (h2 : wt 24 (dlF A lt) sw) (h3 : wt 27 (coG am lf rg tn al ar a b c) sw) : scr sw := ⟨J, A, lt, (fun j => match j with | 0 => am | 1 => lf | 2 => rg | 3 => tn | 4 => al | _ => ar, fun j => match j with | 0 => a | 1 => b | _ => c), h1, h2, h3⟩
theorem scr.ex {sw : List va_E} (h : scr sw) : ∃ J A lt am lf rg tn al ar a b c, wt 22 (stF J) sw ∧ wt 24 (dlF A lt) sw ∧ wt 27 (coG am lf rg tn al ar a b c) sw := by
  obtain ⟨J, A, lt, co, h1, h2, h3⟩ := h
  exact ⟨J, A, lt, co.1 0, co.1 1, co.1 2, co.1 3, co.1 4, co.1 5, co.2 0, co.2 1, co.2 2, h1, h2, h3⟩
section S0
variable {ε : gv_E} {d : Nat} {Qs : Option Value → List va_E → Prop} {sw : List va_E} {s : shT} {am lf rg tn al ar : Nat → Int32} {a b c : Int32}
theorem sp_X0_widen (i : Nat) (h : Int32) (hw : wt 27 (coG am lf rg tn al ar a b c) sw) (hi : i < 40) (hq : ∀ sw', wt 27 (coG am (upd lf i (if h < lf i then h else lf i)) (upd rg i (if rg i < h then h else rg i)) tn al ar a b c) sw' → same 27 7 sw sw' → Qs none sw') : gv_S ε (d + 1) m_X0_widen [.ref 27, .int (nI i), .int h] sw Qs := by
  have h0 : sw[27]? = some (.inr (0, [.ref 28, .ref 29, .ref 30, .ref 31, .ref 32, .ref 33, .int a, .int b, .int c])) := hw.at 0 rfl
  have hL : sw[29]? = some (.inl (0, 40, .inl lf)) := hw.at 2 rfl
  refine gv_S.go rfl ?_
  refine t_X0_widen_0 (t_X0_widen_1 h0 rfl (t_X0_widen_4 (t_X0_widen_5 (t_X0_widen_6 h0 rfl (t_X0_widen_9 (t_X0_widen_10 hL i hi rfl (by decide) (t_X0_widen_11 (t_X0_widen_12 (Nat.le_of_ble_eq_true rfl)  (t_X0_widen_15 hL i hi rfl (by decide) (?_))))))))))
  have hw1 : wt 27 (coG am (upd lf i (if h < lf i then h else lf i)) rg tn al ar a b c) (sw.set 29 (.inl (0, 40, .inl (upd lf i (if h < lf i then h else lf i))))) := hw.set 2 _ rfl
  have hsm1 : same 27 7 sw (sw.set 29 (.inl (0, 40, .inl (upd lf i (if h < lf i then h else lf i))))) := same.set 29 _ rfl
  generalize sw.set 29 (.inl (0, 40, .inl (upd lf i (if h < lf i then h else lf i)))) = sw1 at hw1 hsm1 ⊢
  have g0 : sw1[27]? = some (.inr (0, [.ref 28, .ref 29, .ref 30, .ref 31, .ref 32, .ref 33, .int a, .int b, .int c])) := hw1.at 0 rfl
  have gR : sw1[30]? = some (.inl (0, 40, .inl rg)) := hw1.at 3 rfl
  refine t_X0_widen_16 (t_X0_widen_17 g0 rfl (t_X0_widen_20 (t_X0_widen_21 (t_X0_widen_22 g0 rfl (t_X0_widen_25 (t_X0_widen_26 gR i hi rfl (by decide) (t_X0_widen_27 (t_X0_widen_28 (Nat.le_of_ble_eq_true rfl)  (t_X0_widen_31 gR i hi rfl (by decide) (t_X0_widen_32 (Nat.le_refl _) ?_))))))))))
  exact hq _ (hw1.set 3 _ rfl) (hsm1.tr (same.set 30 _ rfl))
/-- measure: the spans of a line's passes -/
theorem sp_X0_measure (l : Nat) (hc : cls s sw) {J0 lt0 : Nat → Nat} {A0 : Nat → Int32} (hst : wt 22 (stF J0) sw) (hdl : wt 24 (dlF A0 lt0) sw) (hw : wt 27 (coG am lf rg tn al ar a b c) sw) (hl : l < s.2.2.2.2)
    (hq : ∀ (J : Nat → Nat) (A : Nat → Int32) (lt : Nat → Nat) (am' lf' rg' : Nat → Int32) (sw' : List va_E), am' l = nI (npN (inkN s l) (s.1 1) 8) → (∀ i, i ≠ l → am' i = am i) → (∀ p, p < 10 → lf' (10 * l + p) = zI (loZ (inkN s l) (s.1 1) (s.1 0) p 192)) → (∀ p, p < 10 → rg' (10 * l + p) = zI (hiZ (inkN s l) (s.1 1) (s.1 0) p 192)) → (∀ i, i < 10 * l ∨ 10 * l + 10 ≤ i → lf' i = lf i ∧ rg' i = rg i) → wt 22 (stF J) sw' → wt 24 (dlF A lt) sw' → wt 27 (coG am' lf' rg' tn al ar a b c) sw' → same 22 12 sw sw' → Qs none sw') : gv_S ε (d + 3) m_X0_measure [.ref 27, .int (nI l), .ref 3, .ref 22, .ref 24] sw Qs := by
  have hok := hc.2.2
  have hl4 : l < 4 := by have := hok.2.2.2.2.1; omega
  have hr := hok.2.1
  have hsg := hok.1
  -- the columns of one needle
  have inner : ∀ (J : Nat → Nat) (A : Nat → Int32) (lt : Nat → Nat) (am1 : Nat → Int32) (k : Nat) (a6 : Option Value), k < 8 → (∀ c, c < 24 → A c = if dotB J k c = true then nI (pas (dotB J k) (s.1 1) c) else -9) → ∀ (n c' : Nat) (lf1 rg1 : Nat → Int32) (sw1 : List va_E), c' + n = 24 → (∀ p, p < 10 → lf1 (10 * l + p) = zI (loZ J (s.1 1) (s.1 0) p (24 * k + c'))) → (∀ p, p < 10 → rg1 (10 * l + p) = zI (hiZ J (s.1 1) (s.1 0) p (24 * k + c'))) → (∀ i, i < 10 * l ∨ 10 * l + 10 ≤ i → lf1 i = lf i ∧ rg1 i = rg i) → wt 22 (stF J) sw1 → wt 24 (dlF A lt) sw1 → wt 27 (coG am1 lf1 rg1 tn al ar a b c) sw1 → same 22 12 sw sw1 → (∀ (lf2 rg2 : Nat → Int32) (sw2 : List va_E), (∀ p, p < 10 → lf2 (10 * l + p) = zI (loZ J (s.1 1) (s.1 0) p (24 * (k + 1)))) → (∀ p, p < 10 → rg2 (10 * l + p) = zI (hiZ J (s.1 1) (s.1 0) p (24 * (k + 1)))) → (∀ i, i < 10 * l ∨ 10 * l + 10 ≤ i → lf2 i = lf i ∧ rg2 i = rg i) → wt 22 (stF J) sw2 → wt 24 (dlF A lt) sw2 → wt 27 (coG am1 lf2 rg2 tn al ar a b c) sw2 → same 22 12 sw sw2 → gv_M ε (d + 3) m_X0_measure sw.length Qs 152 [some (.ref 27), some (.int (nI l)), some (.ref 3), some (.ref 22), some (.ref 24), some (.int (nI k)), a6, some (.int (nI 24))] [] sw2 0 0) → gv_M ε (d + 3) m_X0_measure sw.length Qs 103 [some (.ref 27), some (.int (nI l)), some (.ref 3), some (.ref 22), some (.ref 24), some (.int (nI k)), a6, some (.int (nI c'))] [] sw1 0 0 := by
    intro J A lt am1 k a6 hk hA n
    induction n with
    | zero =>
      intro c' lf1 rg1 sw1 hcn h1 h2 h3 w1 w2 w3 hsm kk
      refine t_X0_measure_103 (t_X0_measure_105 (t_X0_measure_107N (by omega) (by omega) (fun h => ?_) (fun h => absurd h (by omega))))
      have e : c' = 24 := by omega
      subst e
      exact kk lf1 rg1 sw1 h1 h2 h3 w1 w2 w3 hsm
    | succ n ih =>
      intro c' lf1 rg1 sw1 hcn h1 h2 h3 w1 w2 w3 hsm kk
      have e1 : (24 * k + c') / 24 = k := by omega
      have e2 : (24 * k + c') % 24 = c' := by omega
      have d1 : sw1[24]? = some (.inr (1, [.ref 25, .ref 26])) := w2.at 0 rfl
      have dA : sw1[25]? = some (.inl (0, 24, .inl A)) := w2.at 1 rfl
      refine t_X0_measure_103 (t_X0_measure_105 (t_X0_measure_107N (by omega) (by omega) (fun h => absurd h (by omega)) (fun h => ?_)))
      have skip : (∀ p, p < 10 → layB J (s.1 1) k p c' = false) → gv_M ε (d + 3) m_X0_measure sw.length Qs 146 [some (.ref 27), some (.int (nI l)), some (.ref 3), some (.ref 22), some (.ref 24), some (.int (nI k)), a6, some (.int (nI c'))] [] sw1 0 0 := by
        intro hno
        refine t_X0_measure_146N (t_X0_measure_149 (?_))
        refine ih (c' + 1) lf1 rg1 sw1 (by omega) (fun p hp => ?_) (fun p hp => ?_) h3 w1 w2 w3 hsm kk
        · rw [h1 p hp]
          show _ = zI (loZ J (s.1 1) (s.1 0) p ((24 * k + c') + 1))
          unfold loZ
          rw [e1, e2, if_neg (by rw [hno p hp]; simp)]
          cases (24 * k + c') <;> rfl
        · rw [h2 p hp]
          show _ = zI (hiZ J (s.1 1) (s.1 0) p ((24 * k + c') + 1))
          unfold hiZ
          rw [e1, e2, if_neg (by rw [hno p hp]; simp)]
          cases (24 * k + c') <;> rfl
      by_cases hd : dotB J k c' = true
      · have hAc : A c' = nI (pas (dotB J k) (s.1 1) c') := by rw [hA c' h, if_pos hd]
        have hpl : pas (dotB J k) (s.1 1) c' ≤ s.1 1 := pas_le h hd
        refine t_X0_measure_110 (t_X0_measure_112 d1 rfl (t_X0_measure_115 (t_X0_measure_117 dA c' h rfl (by decide) (?_))))
        rw [hAc]
        refine t_X0_measure_118N (by omega) ?_
        have hc1 := hc.keep hsm
        have k4 : sw1[3]? = some (.inr (4, [.ref (3 + 1), .ref (3 + 2), .ref (3 + 3), .ref (3 + 4), .int (nI s.2.2.2.2)])) := hc1.2.1.at 0 rfl
        have k0 : sw1[27]? = some (.inr (0, [.ref 28, .ref 29, .ref 30, .ref 31, .ref 32, .ref 33, .int a, .int b, .int c])) := w3.at 0 rfl
        refine t_X0_measure_121 (t_X0_measure_122 (t_X0_measure_123 (t_X0_measure_125N (t_X0_measure_126 (t_X0_measure_128 d1 rfl (t_X0_measure_131 (t_X0_measure_133 dA c' h rfl (by decide) (?_))))))))
        rw [hAc]
        refine t_X0_measure_134N (t_X0_measure_135 (t_X0_measure_136 (t_X0_measure_138 (t_X0_measure_140 k4 (Nat.le_of_ble_eq_true rfl) (sp_X4_headAt k c' hc1.2.1 hk h ?_)))))
        rw [headI_z hsg h]
        refine t_X0_measure_143 k0 (Nat.le_of_ble_eq_true rfl) (sp_X0_widen (l * 10 + pas (dotB J k) (s.1 1) c') _ w3 (by omega) (fun sw2 hw2 hsm2 => ?_))
        refine t_X0_measure_146N (t_X0_measure_149 (?_))
        have hb := hdZ_bd (st := s.1 0) (k := k) hsg h
        refine ih (c' + 1) _ _ sw2 (by omega) (fun p hp => ?_) (fun p hp => ?_) (fun i hi => ?_) (w1.keep hsm2 rfl) (w2.keep hsm2 rfl) hw2 (hsm.tr (hsm2.wide (by decide) (by decide))) kk
        · show _ = zI (loZ J (s.1 1) (s.1 0) p ((24 * k + c') + 1))
          have hlb := loZ_bd (J := J) (r := s.1 1) (p := p) hsg (24 * k + c')
          have e3 : loZ J (s.1 1) (s.1 0) p ((24 * k + c') + 1) = if layB J (s.1 1) k p c' = true ∧ hdZ (s.1 0) k c' < loZ J (s.1 1) (s.1 0) p (24 * k + c') then hdZ (s.1 0) k c' else loZ J (s.1 1) (s.1 0) p (24 * k + c') := by
            rw [loZ, e1, e2]
          rw [e3]
          by_cases q : p = pas (dotB J k) (s.1 1) c'
          · rw [show 10 * l + p = l * 10 + pas (dotB J k) (s.1 1) c' by omega, pk_us, show l * 10 + pas (dotB J k) (s.1 1) c' = 10 * l + p by omega, h1 p hp]
            have hlay : layB J (s.1 1) k p c' = true := by
              unfold layB
              rw [Bool.and_eq_true, beq_iff_eq]
              exact ⟨hd, q.symm⟩
            by_cases z : hdZ (s.1 0) k c' < loZ J (s.1 1) (s.1 0) p (24 * k + c')
            · rw [if_pos ((zI_lt (by omega) (by omega)).mpr z), if_pos ⟨hlay, z⟩]
            · rw [if_neg (fun y => z ((zI_lt (by omega) (by omega)).mp y)), if_neg (fun y => z y.2)]
          · rw [pk_un (by omega), h1 p hp, if_neg (fun y => ?_)]
            have := y.1
            unfold layB at this
            rw [Bool.and_eq_true, beq_iff_eq] at this
            exact q this.2.symm
        · show _ = zI (hiZ J (s.1 1) (s.1 0) p ((24 * k + c') + 1))
          have hlb := hiZ_bd (J := J) (r := s.1 1) (p := p) hsg (24 * k + c')
          have e3 : hiZ J (s.1 1) (s.1 0) p ((24 * k + c') + 1) = if layB J (s.1 1) k p c' = true ∧ hiZ J (s.1 1) (s.1 0) p (24 * k + c') < hdZ (s.1 0) k c' then hdZ (s.1 0) k c' else hiZ J (s.1 1) (s.1 0) p (24 * k + c') := by
            rw [hiZ, e1, e2]
          rw [e3]
          by_cases q : p = pas (dotB J k) (s.1 1) c'
          · rw [show 10 * l + p = l * 10 + pas (dotB J k) (s.1 1) c' by omega, pk_us, show l * 10 + pas (dotB J k) (s.1 1) c' = 10 * l + p by omega, h2 p hp]
            have hlay : layB J (s.1 1) k p c' = true := by
              unfold layB
              rw [Bool.and_eq_true, beq_iff_eq]
              exact ⟨hd, q.symm⟩
            by_cases z : hiZ J (s.1 1) (s.1 0) p (24 * k + c') < hdZ (s.1 0) k c'
            · rw [if_pos ((zI_lt (by omega) (by omega)).mpr z), if_pos ⟨hlay, z⟩]
            · rw [if_neg (fun y => z ((zI_lt (by omega) (by omega)).mp y)), if_neg (fun y => z y.2)]
          · rw [pk_un (by omega), h2 p hp, if_neg (fun y => ?_)]
            have := y.1
            unfold layB at this
            rw [Bool.and_eq_true, beq_iff_eq] at this
            exact q this.2.symm
        · rw [pk_un (by omega), pk_un (by omega)]
          exact h3 i hi
      · have hAc : A c' = -9 := by rw [hA c' h, if_neg hd]
        refine t_X0_measure_110 (t_X0_measure_112 d1 rfl (t_X0_measure_115 (t_X0_measure_117 dA c' h rfl (by decide) (?_))))
        rw [hAc]
        refine t_X0_measure_118 (fun _ => ?_) (fun h => absurd (by decide) h)
        refine skip (fun p _ => ?_)
        unfold layB
        have : dotB J k c' = false := by simpa using hd
        rw [this, Bool.false_and]
  -- the needles
  have outer : ∀ (J : Nat → Nat), (∀ c, c < 24 → J c = inkN s l c) → ∀ (n k : Nat) (A : Nat → Int32) (lt : Nat → Nat) (am1 lf1 rg1 : Nat → Int32) (a6 a7 : Option Value) (sw1 : List va_E), k + n = 8 → am1 l = nI (npN J (s.1 1) k) → (∀ i, i ≠ l → am1 i = am i) → (∀ p, p < 10 → lf1 (10 * l + p) = zI (loZ J (s.1 1) (s.1 0) p (24 * k))) → (∀ p, p < 10 → rg1 (10 * l + p) = zI (hiZ J (s.1 1) (s.1 0) p (24 * k))) → (∀ i, i < 10 * l ∨ 10 * l + 10 ≤ i → lf1 i = lf i ∧ rg1 i = rg i) → wt 22 (stF J) sw1 → wt 24 (dlF A lt) sw1 → wt 27 (coG am1 lf1 rg1 tn al ar a b c) sw1 → same 22 12 sw sw1 → gv_M ε (d + 3) m_X0_measure sw.length Qs 60 [some (.ref 27), some (.int (nI l)), some (.ref 3), some (.ref 22), some (.ref 24), some (.int (nI k)), a6, a7] [] sw1 0 0 := by
    intro J hJ n
    have hJ255 : ∀ c, c < 24 → J c ≤ 255 := fun c hcc => by rw [hJ c hcc]; exact inkN_le hok l c
    induction n with
    | zero =>
      intro k A lt am1 lf1 rg1 a6 a7 sw1 hkn g1 g2 g3 g4 g5 w1 w2 w3 hsm
      refine t_X0_measure_60 (t_X0_measure_62 (t_X0_measure_64N (by omega) (by omega) (fun h => ?_) (fun h => absurd h (by omega))))
      refine t_X0_measure_158 (Nat.le_refl _) ?_
      have e : k = 8 := by omega
      subst e
      refine hq J A lt am1 lf1 rg1 sw1 (by rw [g1, npN_cong hJ]) g2 (fun p hp => ?_) (fun p hp => ?_) g5 w1 w2 w3 hsm
      · rw [g3 p hp, loZ_cong hJ]
      · rw [g4 p hp, hiZ_cong hJ]
    | succ n ih =>
      intro k A lt am1 lf1 rg1 a6 a7 sw1 hkn g1 g2 g3 g4 g5 w1 w2 w3 hsm
      have hc1 := hc.keep hsm
      have k4 : sw1[3]? = some (.inr (4, [.ref (3 + 1), .ref (3 + 2), .ref (3 + 3), .ref (3 + 4), .int (nI s.2.2.2.2)])) := hc1.2.1.at 0 rfl
      have hset : sw1[4]? = some (.inl (0, 3, .inl (fun i => nI (s.1 i)))) := hc1.2.1.at 1 rfl
      have d1 : sw1[24]? = some (.inr (1, [.ref 25, .ref 26])) := w2.at 0 rfl
      have hnp := npN_le (J := J) (r := s.1 1) k
      have hus := usedN_le (D := dotB J k) (r := s.1 1) 24 (Nat.le_refl _)
      refine t_X0_measure_60 (t_X0_measure_62 (t_X0_measure_64N (by omega) (by omega) (fun h => absurd h (by omega)) (fun h => ?_)))
      refine t_X0_measure_67 (t_X0_measure_69 (t_X0_measure_70 (t_X0_measure_71 k4 rfl (t_X0_measure_74 (t_X0_measure_75 hset 1 (by decide) rfl (by decide) (t_X0_measure_76 (t_X0_measure_78 d1 (Nat.le_of_ble_eq_true rfl) (sp_X1_deal k (s.1 1) w1 hJ255 w2 (by omega) hr (fun A2 lt2 sw2 hA2 hw2 hsm2 => ?_)))))))))
      have w3' := w3.keep hsm2 rfl
      have k0 : sw2[27]? = some (.inr (0, [.ref 28, .ref 29, .ref 30, .ref 31, .ref 32, .ref 33, .int a, .int b, .int c])) := w3'.at 0 rfl
      have kA : sw2[28]? = some (.inl (0, 4, .inl am1)) := w3'.at 1 rfl
      refine t_X0_measure_81 (t_X0_measure_83 (t_X0_measure_84 k0 rfl (t_X0_measure_87 (t_X0_measure_88 (t_X0_measure_89 k0 rfl (t_X0_measure_92 (t_X0_measure_93 kA l hl4 rfl (by decide) (?_))))))))
      rw [g1]
      refine t_X0_measure_94 (t_X0_measure_96N (Nat.le_of_ble_eq_true rfl) (by omega) (by omega) (t_X0_measure_99 kA l hl4 rfl (by decide) (t_X0_measure_100 (t_X0_measure_101 (?_)))))
      have w4 : wt 27 (coG (upd am1 l (nI (max (npN J (s.1 1) k) (usedN (dotB J k) (pas (dotB J k) (s.1 1)) 24)))) lf1 rg1 tn al ar a b c) (sw2.set 28 (.inl (0, 4, .inl (upd am1 l (nI (max (npN J (s.1 1) k) (usedN (dotB J k) (pas (dotB J k) (s.1 1)) 24))))))) := w3'.set 1 _ rfl
      have hsm4 : same 27 7 sw2 (sw2.set 28 (.inl (0, 4, .inl (upd am1 l (nI (max (npN J (s.1 1) k) (usedN (dotB J k) (pas (dotB J k) (s.1 1)) 24))))))) := same.set 28 _ rfl
      generalize sw2.set 28 (.inl (0, 4, .inl (upd am1 l (nI (max (npN J (s.1 1) k) (usedN (dotB J k) (pas (dotB J k) (s.1 1)) 24)))))) = sw3 at w4 hsm4 ⊢
      have hsm5 : same 22 12 sw sw3 := (hsm.tr (hsm2.wide (by decide) (by decide))).tr (hsm4.wide (by decide) (by decide))
      refine inner J A2 lt2 _ k _ (by omega) hA2 24 0 lf1 rg1 sw3 (by decide) g3 g4 g5 ((w1.keep hsm2 rfl).keep hsm4 rfl) (hw2.keep hsm4 rfl) w4 hsm5 (fun lf2 rg2 sw4 q1 q2 q3 q4 q5 q6 q7 => ?_)
      refine t_X0_measure_152N (t_X0_measure_155 (?_))
      refine ih (k + 1) A2 lt2 _ lf2 rg2 _ _ sw4 (by omega) pk_us (fun i hi => ?_) q1 q2 q3 q4 q5 q6 q7
      rw [pk_un hi]
      exact g2 i hi
  -- the passes are cleared
  have first : ∀ (n p : Nat) (lf1 rg1 : Nat → Int32) (a6 a7 : Option Value) (sw1 : List va_E), p + n = 10 → (∀ q, q < p → lf1 (10 * l + q) = zI 24 ∧ rg1 (10 * l + q) = zI (-24)) → (∀ i, i < 10 * l ∨ 10 * l + 10 ≤ i → lf1 i = lf i ∧ rg1 i = rg i) → wt 22 (stF J0) sw1 → wt 24 (dlF A0 lt0) sw1 → wt 27 (coG am lf1 rg1 tn al ar a b c) sw1 → same 22 12 sw sw1 → gv_M ε (d + 3) m_X0_measure sw.length Qs 3 [some (.ref 27), some (.int (nI l)), some (.ref 3), some (.ref 22), some (.ref 24), some (.int (nI p)), a6, a7] [] sw1 0 0 := by
    intro n
    induction n with
    | zero =>
      intro p lf1 rg1 a6 a7 sw1 hpn h1 h2 w1 w2 w3 hsm
      have hc1 := hc.keep hsm
      have k6 : sw1[22]? = some (.inr (6, [.ref 23])) := w1.at 0 rfl
      refine t_X0_measure_3 (t_X0_measure_5 (t_X0_measure_7N (by omega) (by omega) (fun h => ?_) (fun h => absurd h (by omega))))
      refine t_X0_measure_44 (t_X0_measure_45 (t_X0_measure_46 (t_X0_measure_47 k6 (Nat.le_of_ble_eq_true rfl) (sp_X6_lay l w1 hc1.2.1 hok hl (fun J sw2 hJ hw2 hsm2 => ?_)))))
      have w3' := w3.keep hsm2 rfl
      have k0 : sw2[27]? = some (.inr (0, [.ref 28, .ref 29, .ref 30, .ref 31, .ref 32, .ref 33, .int a, .int b, .int c])) := w3'.at 0 rfl
      have kA : sw2[28]? = some (.inl (0, 4, .inl am)) := w3'.at 1 rfl
      refine t_X0_measure_50 (t_X0_measure_51 k0 rfl (t_X0_measure_54 (t_X0_measure_55 (t_X0_measure_56 kA l hl4 rfl (by decide) (t_X0_measure_57 (t_X0_measure_58 (?_)))))))
      have w4 : wt 27 (coG (upd am l (nI 0)) lf1 rg1 tn al ar a b c) (sw2.set 28 (.inl (0, 4, .inl (upd am l (nI 0))))) := w3'.set 1 _ rfl
      have hsm4 : same 27 7 sw2 (sw2.set 28 (.inl (0, 4, .inl (upd am l (nI 0))))) := same.set 28 _ rfl
      generalize sw2.set 28 (.inl (0, 4, .inl (upd am l (nI 0)))) = sw3 at w4 hsm4 ⊢
      have hsm5 : same 22 12 sw sw3 := (hsm.tr (hsm2.wide (by decide) (by decide))).tr (hsm4.wide (by decide) (by decide))
      exact outer J hJ 8 0 A0 lt0 _ lf1 rg1 _ _ sw3 (by decide) pk_us (fun i hi => pk_un hi) (fun q hq => (h1 q (by omega)).1) (fun q hq => (h1 q (by omega)).2) h2 (hw2.keep hsm4 rfl) ((w2.keep hsm2 rfl).keep hsm4 rfl) w4 hsm5
    | succ n ih =>
      intro p lf1 rg1 a6 a7 sw1 hpn h1 h2 w1 w2 w3 hsm
      have k0 : sw1[27]? = some (.inr (0, [.ref 28, .ref 29, .ref 30, .ref 31, .ref 32, .ref 33, .int a, .int b, .int c])) := w3.at 0 rfl
      have kL : sw1[29]? = some (.inl (0, 40, .inl lf1)) := w3.at 2 rfl
      refine t_X0_measure_3 (t_X0_measure_5 (t_X0_measure_7N (by omega) (by omega) (fun h => absurd h (by omega)) (fun h => ?_)))
      refine t_X0_measure_10 (t_X0_measure_11 k0 rfl (t_X0_measure_14 (t_X0_measure_15 (t_X0_measure_17N (t_X0_measure_18 (t_X0_measure_20N (t_X0_measure_21 (t_X0_measure_23 kL (l * 10 + p) (by omega) rfl (by decide) (?_)))))))))
      have w4 : wt 27 (coG am (upd lf1 (l * 10 + p) (nI 24)) rg1 tn al ar a b c) (sw1.set 29 (.inl (0, 40, .inl (upd lf1 (l * 10 + p) (nI 24))))) := w3.set 2 _ rfl
      have hsm4 : same 27 7 sw1 (sw1.set 29 (.inl (0, 40, .inl (upd lf1 (l * 10 + p) (nI 24))))) := same.set 29 _ rfl
      generalize sw1.set 29 (.inl (0, 40, .inl (upd lf1 (l * 10 + p) (nI 24)))) = sw2 at w4 hsm4 ⊢
      have j0 : sw2[27]? = some (.inr (0, [.ref 28, .ref 29, .ref 30, .ref 31, .ref 32, .ref 33, .int a, .int b, .int c])) := w4.at 0 rfl
      have jR : sw2[30]? = some (.inl (0, 40, .inl rg1)) := w4.at 3 rfl
      refine t_X0_measure_24 (t_X0_measure_25 j0 rfl (t_X0_measure_28 (t_X0_measure_29 (t_X0_measure_31N (t_X0_measure_32 (t_X0_measure_34N (t_X0_measure_35 (t_X0_measure_37 jR (l * 10 + p) (by omega) rfl (by decide) (t_X0_measure_38N (t_X0_measure_41 (?_)))))))))))
      have w5 : wt 27 (coG am (upd lf1 (l * 10 + p) (nI 24)) (upd rg1 (l * 10 + p) (-24)) tn al ar a b c) (sw2.set 30 (.inl (0, 40, .inl (upd rg1 (l * 10 + p) (-24))))) := w4.set 3 _ rfl
      have hsm5 : same 27 7 sw2 (sw2.set 30 (.inl (0, 40, .inl (upd rg1 (l * 10 + p) (-24))))) := same.set 30 _ rfl
      generalize sw2.set 30 (.inl (0, 40, .inl (upd rg1 (l * 10 + p) (-24)))) = sw3 at w5 hsm5 ⊢
      have hsm6 := hsm4.tr hsm5
      refine ih (p + 1) _ _ _ _ sw3 (by omega) (fun q hq => ?_) (fun i hi => ?_) (w1.keep hsm6 rfl) (w2.keep hsm6 rfl) w5 (hsm.tr (hsm6.wide (by decide) (by decide)))
      · by_cases z : q = p
        · subst z
          rw [show 10 * l + q = l * 10 + q by omega, pk_us, pk_us]
          exact ⟨zI_nI (by decide), zI_m24⟩
        · rw [pk_un (by omega), pk_un (by omega)]
          exact h1 q (by omega)
      · rw [pk_un (by omega), pk_un (by omega)]
        exact h2 i hi
  refine gv_S.go rfl ?_
  refine t_X0_measure_0 (t_X0_measure_1 (?_))
  exact first 10 0 lf rg _ _ sw (by decide) (fun q hq => absurd hq (by omega)) (fun i hi => ⟨rfl, rfl⟩) hst hdl hw same.rf
end S0
