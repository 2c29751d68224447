/-! the model: its world, texts, letters, lines, sights -/
def upA (A : Nat → Nat → Nat) (j : Nat) (f : Nat → Nat) : Nat → Nat → Nat := fun i => if i = j then f else A i
section W
variable {r U fk Kp T ln nu : Nat → Nat} {kn ua n sk : Nat} {sw : List va_E}
theorem moW.qm (h : moW r U fk Kp T ln nu kn ua n sk sw) : qm r sw := by
  obtain ⟨v, ch, A, lz, hz, hw, rfl, -⟩ := h
  exact moF.qm hw
theorem moW.view (h : moW r U fk Kp T ln nu kn ua n sk sw) : ∃ fs, sw[44]? = some (.inr (8, fs)) ∧ fs.length = 20 ∧ fs[0]? = some (.ref 45) ∧ fs[1]? = some (.int (nI kn)) ∧ fs[2]? = some (.int (nI ua)) ∧ fs[3]? = some (.ref 46) ∧ fs[4]? = some (.ref 47) ∧ fs[5]? = some (.ref 48) ∧ fs[6]? = some (.int (nI n)) ∧ fs[7]? = some (.ref 49) ∧ fs[17]? = some (.int (nI sk)) ∧ fs[18]? = some (.ref 53) ∧ fs[19]? = some (.ref 54) ∧ sw[45]? = some (.inl (0, 58, .inl (fun i => nI (r i)))) ∧ sw[46]? = some (.inl (0, 580, .inl (fun i => nI (U i)))) ∧ sw[47]? = some (.inl (1, 2, .inl (fun i => nI (fk i)))) ∧ sw[48]? = some (.inl (0, 116, .inl (fun i => nI (Kp i)))) ∧ sw[49]? = some (.inl (0, 120, .inl (fun i => nI (T i)))) ∧ sw[53]? = some (.inl (0, 6, .inl (fun i => nI (ln i)))) ∧ sw[54]? = some (.inl (0, 6, .inl (fun i => nI (nu i)))) := by
  obtain ⟨v, ch, A, lz, hz, hw, rfl, rfl, rfl, rfl, rfl, rfl, rfl, e0, e1, e2, e8⟩ := h
  refine ⟨moO v ch, hw.at 0 rfl, rfl, rfl, ?_, ?_, rfl, rfl, rfl, ?_, rfl, ?_, rfl, rfl, hw.at 1 rfl, hw.at 2 rfl, hw.at 3 rfl, hw.at 4 rfl, hw.at 5 rfl, hw.at 9 rfl, hw.at 10 rfl⟩
  · show some (Value.int (v 0)) = _
    rw [e0]
  · show some (Value.int (v 1)) = _
    rw [e1]
  · show some (Value.int (v 2)) = _
    rw [e2]
  · show some (Value.int (v 8)) = _
    rw [e8]
theorem moW.sR (h : moW r U fk Kp T ln nu kn ua n sk sw) (r' : Nat → Nat) : moW r' U fk Kp T ln nu kn ua n sk (sw.set 45 (.inl (0, 58, .inl (fun i => nI (r' i))))) := by
  obtain ⟨v, ch, A, lz, hz, hw, rfl, rfl, rfl, rfl, rfl, rfl, rfl, e0, e1, e2, e8⟩ := h
  exact ⟨v, ch, upA A 0 r', lz, hz, hw.set 1 _ rfl, rfl, rfl, rfl, rfl, rfl, rfl, rfl, e0, e1, e2, e8⟩
theorem moW.sU (h : moW r U fk Kp T ln nu kn ua n sk sw) (U' : Nat → Nat) : moW r U' fk Kp T ln nu kn ua n sk (sw.set 46 (.inl (0, 580, .inl (fun i => nI (U' i))))) := by
  obtain ⟨v, ch, A, lz, hz, hw, rfl, rfl, rfl, rfl, rfl, rfl, rfl, e0, e1, e2, e8⟩ := h
  exact ⟨v, ch, upA A 1 U', lz, hz, hw.set 2 _ rfl, rfl, rfl, rfl, rfl, rfl, rfl, rfl, e0, e1, e2, e8⟩
theorem moW.sK (h : moW r U fk Kp T ln nu kn ua n sk sw) (fk' : Nat → Nat) : moW r U fk' Kp T ln nu kn ua n sk (sw.set 47 (.inl (1, 2, .inl (fun i => nI (fk' i))))) := by
  obtain ⟨v, ch, A, lz, hz, hw, rfl, rfl, rfl, rfl, rfl, rfl, rfl, e0, e1, e2, e8⟩ := h
  exact ⟨v, ch, upA A 2 fk', lz, hz, hw.set 3 _ rfl, rfl, rfl, rfl, rfl, rfl, rfl, rfl, e0, e1, e2, e8⟩
theorem moW.sP (h : moW r U fk Kp T ln nu kn ua n sk sw) (Kp' : Nat → Nat) : moW r U fk Kp' T ln nu kn ua n sk (sw.set 48 (.inl (0, 116, .inl (fun i => nI (Kp' i))))) := by
  obtain ⟨v, ch, A, lz, hz, hw, rfl, rfl, rfl, rfl, rfl, rfl, rfl, e0, e1, e2, e8⟩ := h
  exact ⟨v, ch, upA A 3 Kp', lz, hz, hw.set 4 _ rfl, rfl, rfl, rfl, rfl, rfl, rfl, rfl, e0, e1, e2, e8⟩
theorem moW.sT (h : moW r U fk Kp T ln nu kn ua n sk sw) (T' : Nat → Nat) : moW r U fk Kp T' ln nu kn ua n sk (sw.set 49 (.inl (0, 120, .inl (fun i => nI (T' i))))) := by
  obtain ⟨v, ch, A, lz, hz, hw, rfl, rfl, rfl, rfl, rfl, rfl, rfl, e0, e1, e2, e8⟩ := h
  exact ⟨v, ch, upA A 4 T', lz, hz, hw.set 5 _ rfl, rfl, rfl, rfl, rfl, rfl, rfl, rfl, e0, e1, e2, e8⟩
theorem moW.sA (h : moW r U fk Kp T ln nu kn ua n sk sw) (ln' : Nat → Nat) : moW r U fk Kp T ln' nu kn ua n sk (sw.set 53 (.inl (0, 6, .inl (fun i => nI (ln' i))))) := by
  obtain ⟨v, ch, A, lz, hz, hw, rfl, rfl, rfl, rfl, rfl, rfl, rfl, e0, e1, e2, e8⟩ := h
  exact ⟨v, ch, upA A 6 ln', lz, hz, hw.set 9 _ rfl, rfl, rfl, rfl, rfl, rfl, rfl, rfl, e0, e1, e2, e8⟩
theorem moW.sB (h : moW r U fk Kp T ln nu kn ua n sk sw) (nu' : Nat → Nat) : moW r U fk Kp T ln nu' kn ua n sk (sw.set 54 (.inl (0, 6, .inl (fun i => nI (nu' i))))) := by
  obtain ⟨v, ch, A, lz, hz, hw, rfl, rfl, rfl, rfl, rfl, rfl, rfl, e0, e1, e2, e8⟩ := h
  exact ⟨v, ch, upA A 7 nu', lz, hz, hw.set 10 _ rfl, rfl, rfl, rfl, rfl, rfl, rfl, rfl, e0, e1, e2, e8⟩
theorem moW.fs_eq {v : Nat → Int32} {ch : Int64} {A : Nat → Nat → Nat} {lz hz : Nat → Int32} {fs : List Value} (hw : wt 44 (moF v ch A lz hz) sw) (h8 : sw[44]? = some (.inr (8, fs))) : fs = moO v ch := by
  have : sw[44]? = some (.inr (8, moO v ch)) := hw.at 0 rfl
  rw [h8] at this
  injection this with a
  injection a with a
  injection a
theorem moW.f1 (h : moW r U fk Kp T ln nu kn ua n sk sw) {fs : List Value} (h8 : sw[44]? = some (.inr (8, fs))) (kn' : Nat) : moW r U fk Kp T ln nu kn' ua n sk (sw.set 44 (.inr (8, fs.set 1 (.int (nI kn'))))) := by
  obtain ⟨v, ch, A, lz, hz, hw, rfl, rfl, rfl, rfl, rfl, rfl, rfl, e0, e1, e2, e8⟩ := h
  have e := moW.fs_eq hw h8
  subst e
  exact ⟨upd v 0 (nI kn'), ch, A, lz, hz, hw.set 0 _ rfl, rfl, rfl, rfl, rfl, rfl, rfl, rfl, rfl, e1, e2, e8⟩
theorem moW.f2 (h : moW r U fk Kp T ln nu kn ua n sk sw) {fs : List Value} (h8 : sw[44]? = some (.inr (8, fs))) (ua' : Nat) : moW r U fk Kp T ln nu kn ua' n sk (sw.set 44 (.inr (8, fs.set 2 (.int (nI ua'))))) := by
  obtain ⟨v, ch, A, lz, hz, hw, rfl, rfl, rfl, rfl, rfl, rfl, rfl, e0, e1, e2, e8⟩ := h
  have e := moW.fs_eq hw h8
  subst e
  exact ⟨upd v 1 (nI ua'), ch, A, lz, hz, hw.set 0 _ rfl, rfl, rfl, rfl, rfl, rfl, rfl, rfl, e0, rfl, e2, e8⟩
theorem moW.f6 (h : moW r U fk Kp T ln nu kn ua n sk sw) {fs : List Value} (h8 : sw[44]? = some (.inr (8, fs))) (n' : Nat) : moW r U fk Kp T ln nu kn ua n' sk (sw.set 44 (.inr (8, fs.set 6 (.int (nI n'))))) := by
  obtain ⟨v, ch, A, lz, hz, hw, rfl, rfl, rfl, rfl, rfl, rfl, rfl, e0, e1, e2, e8⟩ := h
  have e := moW.fs_eq hw h8
  subst e
  exact ⟨upd v 2 (nI n'), ch, A, lz, hz, hw.set 0 _ rfl, rfl, rfl, rfl, rfl, rfl, rfl, rfl, e0, e1, rfl, e8⟩
theorem moW.f17 (h : moW r U fk Kp T ln nu kn ua n sk sw) {fs : List Value} (h8 : sw[44]? = some (.inr (8, fs))) (sk' : Nat) : moW r U fk Kp T ln nu kn ua n sk' (sw.set 44 (.inr (8, fs.set 17 (.int (nI sk'))))) := by
  obtain ⟨v, ch, A, lz, hz, hw, rfl, rfl, rfl, rfl, rfl, rfl, rfl, e0, e1, e2, e8⟩ := h
  have e := moW.fs_eq hw h8
  subst e
  exact ⟨upd v 8 (nI sk'), ch, A, lz, hz, hw.set 0 _ rfl, rfl, rfl, rfl, rfl, rfl, rfl, rfl, e0, e1, e2, rfl⟩
theorem moW.keep {sw' : List va_E} (h : moW r U fk Kp T ln nu kn ua n sk sw) (hs : same 0 44 sw sw') : moW r U fk Kp T ln nu kn ua n sk sw' := by
  obtain ⟨v, ch, A, lz, hz, hw, h⟩ := h
  exact ⟨v, ch, A, lz, hz, hw.keep hs rfl, h⟩
end W
def remP (U r : Nat → Nat) (ua : Nat) (U' : Nat → Nat) : Prop := (∀ k, k < 58 → U' (58 * ua + k) = r k) ∧ ∀ i, (i < 58 * ua ∨ 58 * ua + 58 ≤ i) → U' i = U i
theorem sub1_toInt {a : Nat} (h : a < 2 ^ 31) : (nI a - nI 1).toInt = (a : Int) - 1 := by
  by_cases z : a = 0
  · subst z
    decide
  · rw [pk_sub (by omega), nI_toInt (by omega)]
    omega
def mdF : Nat → Nat → Nat → Nat × Nat
  | 0, u, l => (u, l)
  | d + 1, u, l => if 1 < d + 1 then (if u % (d + 1) = 0 ∧ l % (d + 1) = 0 then mdF d (u / (d + 1)) (l / (d + 1)) else mdF d u l) else (u, l)
theorem md_dv : ∀ a, a < 72 → mdF 72 a 72 = (a / dvF a 72, 72 / dvF a 72) := by decide +kernel
noncomputable def ctR (r : Nat → Nat) (kn sk n : Nat) (j : Nat) : Nat := match j with
  | 0 => r 21
  | 1 => sumN (fun l => totN (inkR r l)) (r 21)
  | 2 => sumN (fun l => npN (inkR r l) (r 1) 8) (r 21)
  | 3 => r 0
  | 4 => r 1
  | 5 => r 2
  | 6 => sk
  | 7 => n
  | _ => kn
section S8
variable {ε : gv_E} {d : Nat} {Qs : Option Value → List va_E → Prop} {r U fk Kp T ln nu : Nat → Nat} {kn ua n sk : Nat} {sw : List va_E}
theorem sp_X8_type (y : Int32) (hM : moW r U fk Kp T ln nu kn ua n sk sw) (hn : n ≤ 120) (h0 : (∀ c, c ≤ 255 → y ≠ nI c) → Qs (some (.int (-1))) sw) (h1 : ∀ c, c ≤ 255 → y = nI c → n = 120 → Qs (some (.int (-3))) sw) (h2 : ∀ c, c ≤ 255 → y = nI c → n < 120 → ∀ sw', moW r U fk Kp (fun i => if i = n then c else T i) ln nu kn ua (n + 1) sk sw' → same 44 11 sw sw' → Qs (some (.int (nI (n + 1)))) sw') : gv_S ε (d + 1) m_X8_type [.ref 44, .int y] sw Qs := by
  obtain ⟨afs, a8, al, a0, a1, a2, a3, a4, a5, a6, a7, a17, a18, a19, aN, aU, aK, aP, aT, aA, aB⟩ := hM.view
  refine gv_S.go rfl ?_
  refine t_X8_type_0 (t_X8_type_1 (t_X8_type_2 (t_X8_type_5 (Nat.le_of_ble_eq_true rfl) (sp_X8_inN y 255 (by decide) (fun c hc e => ?_) (fun h => ?_)))))
  · subst e
    refine t_X8_type_8 (fun _ => ?_) (fun h => absurd h (by decide))
    refine t_X8_type_13 (t_X8_type_14 a8 a6 (t_X8_type_17 (t_X8_type_19N (by omega) (by omega) (fun g => ?_) (fun g => ?_))))
    · refine t_X8_type_25 (t_X8_type_26 a8 a7 (t_X8_type_29 (t_X8_type_30 a8 a6 (t_X8_type_33 (t_X8_type_34 aT n (by omega) rfl (by decide) (?_))))))
      rw [nI_set]
      have hM2 := hM.sT (fun i => if i = n then c else T i)
      have m2 : same 44 11 sw _ := same.set 49 (.inl (0, 120, .inl (fun i => nI (if i = n then c else T i)))) rfl
      generalize List.set sw _ _ = sw2 at hM2 m2 ⊢
      obtain ⟨bfs, b8, bl, b0, b1, b2, b3, b4, b5, b6, b7, b17, b18, b19, bN, bU, bK, bP, bT, bA, bB⟩ := hM2.view
      refine t_X8_type_35 (t_X8_type_36 rfl (t_X8_type_37 b8 b6 (t_X8_type_40 (t_X8_type_41N (t_X8_type_42 b8 bl (?_))))))
      have hM3 := hM2.f6 b8 (n + 1)
      have m3 : same 44 11 sw2 _ := same.set 44 (.inr (8, bfs.set 6 (.int (nI (n + 1))))) rfl
      generalize List.set sw2 _ _ = sw3 at hM3 m3 ⊢
      obtain ⟨cfs, c8, cl, c0, c1, c2, c3, c4, c5, c6, c7, c17, c18, c19, cN, cU, cK, cP, cT, cA, cB⟩ := hM3.view
      refine t_X8_type_45 (t_X8_type_46 c8 c6 (t_X8_type_49 ?_))
      exact h2 c hc rfl (by omega) sw3 hM3 (m2.tr m3)
    · refine t_X8_type_22 (t_X8_type_24 ?_)
      exact h1 c hc rfl g
  · refine t_X8_type_8 (fun h => absurd rfl h) (fun _ => ?_)
    refine t_X8_type_11 (t_X8_type_12 ?_)
    exact h0 h
theorem sp_X8_clear (hM : moW r U fk Kp T ln nu kn ua n sk sw) (h1 : ∀ sw', moW r U fk Kp T ln nu kn ua (0) sk sw' → same 44 11 sw sw' → Qs (some (.int (nI n))) sw') : gv_S ε d m_X8_clear [.ref 44] sw Qs := by
  obtain ⟨afs, a8, al, a0, a1, a2, a3, a4, a5, a6, a7, a17, a18, a19, aN, aU, aK, aP, aT, aA, aB⟩ := hM.view
  refine gv_S.go rfl ?_
  refine t_X8_clear_0 (t_X8_clear_1 a8 a6 (t_X8_clear_4 (t_X8_clear_5 (t_X8_clear_6 (t_X8_clear_7 a8 al (t_X8_clear_10 (t_X8_clear_11 ?_)))))))
  exact h1 _ (hM.f6 a8 0) (same.set 44 _ rfl)
theorem sp_X8_letter (y z : Int32) (hM : moW r U fk Kp T ln nu kn ua n sk sw) (h1 : ∀ a c, a < 6 → c < 3 → y = nI a → z = nI c → Qs (some (.int (nI (r (3 + (3 * a + c)))))) sw) (h0 : ¬ (∃ a c, a < 6 ∧ c < 3 ∧ y = nI a ∧ z = nI c) → Qs (some (.int (-1))) sw) : gv_S ε (d + 1) m_X8_letter [.ref 44, .int y, .int z] sw Qs := by
  obtain ⟨afs, a8, al, a0, a1, a2, a3, a4, a5, a6, a7, a17, a18, a19, aN, aU, aK, aP, aT, aA, aB⟩ := hM.view
  refine gv_S.go rfl ?_
  refine t_X8_letter_0 (t_X8_letter_1 (t_X8_letter_2 (t_X8_letter_3 (Nat.le_of_ble_eq_true rfl) (sp_X8_inN y 5 (by decide) (fun x hx e => ?_) (fun h => ?_)))))
  · refine t_X8_letter_6 (fun h => absurd h (by decide)) (fun _ => ?_)
    refine t_X8_letter_9 (t_X8_letter_10 (t_X8_letter_11 (t_X8_letter_12 (Nat.le_of_ble_eq_true rfl) (sp_X8_inN z 2 (by decide) (fun c hc e2 => ?_) (fun h => ?_)))))
    · subst e
      subst e2
      refine t_X8_letter_15 (fun h => absurd h (by decide)) (fun _ => ?_)
      refine t_X8_letter_18 (t_X8_letter_19 a8 a0 (t_X8_letter_22 (t_X8_letter_23 (t_X8_letter_24 (t_X8_letter_25N (t_X8_letter_26N (t_X8_letter_27 (t_X8_letter_28N (t_X8_letter_29 aN (3 + (3 * x + c)) (by omega) (by rw [Nat.add_assoc]) (by decide) (t_X8_letter_30 (t_X8_letter_34 ?_)))))))))))
      exact h1 x c (by omega) (by omega) rfl rfl
    · refine t_X8_letter_15 (fun _ => ?_) (fun h => absurd rfl h)
      refine t_X8_letter_33 (t_X8_letter_34 ?_)
      exact h0 (fun ⟨l, c, _, q, _, q2⟩ => h c (by omega) q2)
  · refine t_X8_letter_6 (fun _ => ?_) (fun h => absurd rfl h)
    refine t_X8_letter_33 (t_X8_letter_34 ?_)
    exact h0 (fun ⟨l, c, q, _, q2, _⟩ => h l (by omega) q2)
theorem sp_X8_line (y z : Int32) (hM : moW r U fk Kp T ln nu kn ua n sk sw) (hr : roOk r) (h1 : ∀ l, l < r 21 → y = nI l → z = -1 → Qs (some (.int (nI (r (22 + l))))) sw) (h2 : ∀ l k, l < r 21 → k < r (22 + l) → y = nI l → z = nI k → Qs (some (.int (nI (r (26 + 8 * l + k))))) sw) (h0 : (∀ l, l < r 21 → y = nI l → z ≠ -1 ∧ ∀ k, k < r (22 + l) → z ≠ nI k) → Qs (some (.int (-1))) sw) : gv_S ε (d + 2) m_X8_line [.ref 44, .int y, .int z] sw Qs := by
  obtain ⟨afs, a8, al, a0, a1, a2, a3, a4, a5, a6, a7, a17, a18, a19, aN, aU, aK, aP, aT, aA, aB⟩ := hM.view
  have hn := hr.2.2.2.2.1
  have m1 : (-1 : Int32).toInt = -1 := by decide
  refine gv_S.go rfl ?_
  refine t_X8_line_0 (t_X8_line_1 (t_X8_line_2 a8 (Nat.le_of_ble_eq_true rfl) (sp_X8_isLine y hM.qm hn (fun l hl e => ?_) (fun h => ?_))))
  · subst e
    have hlen := hr.2.2.2.2.2.1 l (by omega)
    have hs1 := sub1_toInt (a := r (22 + l)) (by omega)
    refine t_X8_line_5 (fun h => absurd h (by decide)) (fun _ => ?_)
    refine t_X8_line_8 (t_X8_line_9 (t_X8_line_10 (t_X8_line_11 a8 a0 (t_X8_line_14 (t_X8_line_16 (t_X8_line_17N (t_X8_line_18 aN (22 + l) (by omega) rfl (by decide) (t_X8_line_19 (t_X8_line_20 (t_X8_line_21 (Nat.le_of_ble_eq_true rfl) (sp_X8_in z _ _ (fun g1 g2 => ?_) (fun g => ?_))))))))))))
    · rw [Int32.le_iff_toInt_le] at g1 g2
      rw [hs1] at g2
      rw [m1] at g1
      refine t_X8_line_24 (fun _ => ?_) (fun h => absurd h (by decide))
      refine t_X8_line_29 (t_X8_line_30 (fun k => ?_) (fun k => ?_))
      · obtain ⟨j, hj, e⟩ := nI_of (x := z) (fun q => by
          rw [Int32.lt_iff_toInt_lt, Int32.toInt_zero] at q
          rw [Int32.le_iff_toInt_le, Int32.toInt_zero] at k
          omega)
        subst e
        rw [nI_toInt hj] at g2
        refine t_X8_line_45 (t_X8_line_46 a8 a0 (t_X8_line_49 (t_X8_line_51 (t_X8_line_53 (t_X8_line_54N (t_X8_line_55N (t_X8_line_56 (t_X8_line_57N (t_X8_line_58 aN (26 + 8 * l + j) (by omega) rfl (by decide) (t_X8_line_59 ?_))))))))))
        exact h2 l j hl (by omega) rfl rfl
      · refine t_X8_line_33 (t_X8_line_34 a8 a0 (t_X8_line_37 (t_X8_line_39 (t_X8_line_40N (t_X8_line_41 aN (22 + l) (by omega) rfl (by decide) (t_X8_line_42 (t_X8_line_59 ?_)))))))
        refine h1 l hl rfl (Int32.toInt_inj.mp ?_)
        rw [Int32.le_iff_toInt_le, Int32.toInt_zero] at k
        omega
    · refine t_X8_line_24 (fun h => absurd rfl h) (fun _ => ?_)
      refine t_X8_line_27 (t_X8_line_28 ?_)
      refine h0 (fun l' hl' e => ⟨fun q => g ?_, fun j hj q => g ?_⟩)
      · rw [q, Int32.le_iff_toInt_le, Int32.le_iff_toInt_le, hs1, m1]
        omega
      · have e3 := nI_inj (by omega) (by omega) e
        subst e3
        rw [q, Int32.le_iff_toInt_le, Int32.le_iff_toInt_le, hs1, m1, nI_toInt (by omega)]
        omega
  · refine t_X8_line_5 (fun _ => ?_) (fun h => absurd rfl h)
    refine t_X8_line_27 (t_X8_line_28 ?_)
    exact h0 (fun l hl e => absurd e (h l hl))
theorem sp_X8_dots (y z : Int32) (hM : moW r U fk Kp T ln nu kn ua n sk sw) (hr : roOk r) (h1 : ∀ l c, l < r 21 → c < 24 → y = nI l → z = nI c → Qs (some (.int (nI (inkR r l c)))) sw) (h0 : ¬ (∃ l c, l < r 21 ∧ c < 24 ∧ y = nI l ∧ z = nI c) → Qs (some (.int (-1))) sw) : gv_S ε (d + 2) m_X8_dots [.ref 44, .int y, .int z] sw Qs := by
  obtain ⟨afs, a8, al, a0, a1, a2, a3, a4, a5, a6, a7, a17, a18, a19, aN, aU, aK, aP, aT, aA, aB⟩ := hM.view
  have hn := hr.2.2.2.2.1
  refine gv_S.go rfl ?_
  refine t_X8_dots_0 (t_X8_dots_1 (t_X8_dots_2 a8 (Nat.le_of_ble_eq_true rfl) (sp_X8_isLine y hM.qm hn (fun l hl e => ?_) (fun h => ?_))))
  · refine t_X8_dots_5 (fun h => absurd h (by decide)) (fun _ => ?_)
    refine t_X8_dots_8 (t_X8_dots_9 (t_X8_dots_10 (t_X8_dots_12 (Nat.le_of_ble_eq_true rfl) (sp_X8_inN z 23 (by decide) (fun c hc e2 => ?_) (fun h => ?_)))))
    · subst e
      subst e2
      refine t_X8_dots_15 (fun h => absurd h (by decide)) (fun _ => ?_)
      refine t_X8_dots_18 (t_X8_dots_19 (t_X8_dots_20 (t_X8_dots_21 a8 (Nat.le_of_ble_eq_true rfl) (sp_X8_dotsAt l c hM.qm hr (by omega) (by omega) ?_))))
      refine t_X8_dots_24 (t_X8_dots_28 ?_)
      exact h1 l c hl (by omega) rfl rfl
    · refine t_X8_dots_15 (fun _ => ?_) (fun h => absurd rfl h)
      refine t_X8_dots_27 (t_X8_dots_28 ?_)
      exact h0 (fun ⟨l, c, _, q, _, q2⟩ => h c (by omega) q2)
  · refine t_X8_dots_5 (fun _ => ?_) (fun h => absurd rfl h)
    refine t_X8_dots_27 (t_X8_dots_28 ?_)
    exact h0 (fun ⟨l, c, q, _, q2, _⟩ => h l q q2)
theorem sp_X8_sees (y z : Int32) (hM : moW r U fk Kp T ln nu kn ua n sk sw) (hr : roOk r) (hn : sk ≤ 6) (h0 : ¬ (∃ l m, l < r 21 ∧ m ≤ 192 ∧ y = nI l ∧ z = nI m) → Qs (some (.int (-1))) sw) (h1 : ∀ l m, l < r 21 → m ≤ 192 → y = nI l → z = nI m → sk = 6 → Qs (some (.int (-3))) sw) (h2 : ∀ l m, l < r 21 → m ≤ 192 → y = nI l → z = nI m → sk < 6 → ∀ sw', moW r U fk Kp T (fun i => if i = sk then l else ln i) (fun i => if i = sk then m else nu i) kn ua n (sk + 1) sw' → same 44 11 sw sw' → Qs (some (.int (nI (sk + 1)))) sw') : gv_S ε (d + 2) m_X8_sees [.ref 44, .int y, .int z] sw Qs := by
  obtain ⟨afs, a8, al, a0, a1, a2, a3, a4, a5, a6, a7, a17, a18, a19, aN, aU, aK, aP, aT, aA, aB⟩ := hM.view
  have hl4 := hr.2.2.2.2.1
  refine gv_S.go rfl ?_
  refine t_X8_sees_0 (t_X8_sees_1 (t_X8_sees_2 a8 (Nat.le_of_ble_eq_true rfl) (sp_X8_isLine y hM.qm hl4 (fun l hl e => ?_) (fun h => ?_))))
  · refine t_X8_sees_5 (fun h => absurd h (by decide)) (fun _ => ?_)
    refine t_X8_sees_8 (t_X8_sees_9 (t_X8_sees_10 (t_X8_sees_13 (Nat.le_of_ble_eq_true rfl) (sp_X8_inN z 192 (by decide) (fun m hm e2 => ?_) (fun h => ?_)))))
    · subst e
      subst e2
      refine t_X8_sees_16 (fun _ => ?_) (fun h => absurd h (by decide))
      refine t_X8_sees_21 (t_X8_sees_22 a8 a17 (t_X8_sees_25 (t_X8_sees_27N (by omega) (by omega) (fun g => ?_) (fun g => ?_))))
      · refine t_X8_sees_33 (t_X8_sees_34 a8 a18 (t_X8_sees_37 (t_X8_sees_38 a8 a17 (t_X8_sees_41 (t_X8_sees_42 aA sk (by omega) rfl (by decide) (?_))))))
        rw [nI_set]
        have hM2 := hM.sA (fun i => if i = sk then l else ln i)
        have m2 : same 44 11 sw _ := same.set 53 (.inl (0, 6, .inl (fun i => nI (if i = sk then l else ln i)))) rfl
        generalize List.set sw _ _ = sw2 at hM2 m2 ⊢
        obtain ⟨bfs, b8, bl, b0, b1, b2, b3, b4, b5, b6, b7, b17, b18, b19, bN, bU, bK, bP, bT, bA, bB⟩ := hM2.view
        refine t_X8_sees_43 (t_X8_sees_44 b8 b19 (t_X8_sees_47 (t_X8_sees_48 b8 b17 (t_X8_sees_51 (t_X8_sees_52 bB sk (by omega) rfl (by decide) (?_))))))
        rw [nI_set]
        have hM3 := hM2.sB (fun i => if i = sk then m else nu i)
        have m3 : same 44 11 sw2 _ := same.set 54 (.inl (0, 6, .inl (fun i => nI (if i = sk then m else nu i)))) rfl
        generalize List.set sw2 _ _ = sw3 at hM3 m3 ⊢
        obtain ⟨cfs, c8, cl, c0, c1, c2, c3, c4, c5, c6, c7, c17, c18, c19, cN, cU, cK, cP, cT, cA, cB⟩ := hM3.view
        refine t_X8_sees_53 (t_X8_sees_54 rfl (t_X8_sees_55 c8 c17 (t_X8_sees_58 (t_X8_sees_59N (t_X8_sees_60 c8 cl (?_))))))
        have hM4 := hM3.f17 c8 (sk + 1)
        have m4 : same 44 11 sw3 _ := same.set 44 (.inr (8, cfs.set 17 (.int (nI (sk + 1))))) rfl
        generalize List.set sw3 _ _ = sw4 at hM4 m4 ⊢
        obtain ⟨efs, e8, el, e0, e1, e2, e3, e4, e5, e6, e7, e17, e18, e19, eN, eU, eK, eP, eT, eA, eB⟩ := hM4.view
        refine t_X8_sees_63 (t_X8_sees_64 e8 e17 (t_X8_sees_67 ?_))
        exact h2 l m hl hm rfl rfl (by omega) sw4 hM4 ((m2.tr m3).tr m4)
      · refine t_X8_sees_30 (t_X8_sees_32 ?_)
        exact h1 l m hl hm rfl rfl g
    · refine t_X8_sees_16 (fun h => absurd rfl h) (fun _ => ?_)
      refine t_X8_sees_19 (t_X8_sees_20 ?_)
      exact h0 (fun ⟨l, c, _, q, _, q2⟩ => h c q q2)
  · refine t_X8_sees_5 (fun _ => ?_) (fun h => absurd rfl h)
    refine t_X8_sees_19 (t_X8_sees_20 ?_)
    exact h0 (fun ⟨l, c, q, _, q2, _⟩ => h l q q2)
theorem sp_X8_forget (hM : moW r U fk Kp T ln nu kn ua n sk sw) (h1 : ∀ sw', moW r U fk Kp T ln nu kn ua n (0) sw' → same 44 11 sw sw' → Qs (some (.int (nI sk))) sw') : gv_S ε d m_X8_forget [.ref 44] sw Qs := by
  obtain ⟨afs, a8, al, a0, a1, a2, a3, a4, a5, a6, a7, a17, a18, a19, aN, aU, aK, aP, aT, aA, aB⟩ := hM.view
  refine gv_S.go rfl ?_
  refine t_X8_forget_0 (t_X8_forget_1 a8 a17 (t_X8_forget_4 (t_X8_forget_5 (t_X8_forget_6 (t_X8_forget_7 a8 al (t_X8_forget_10 (t_X8_forget_11 ?_)))))))
  exact h1 _ (hM.f17 a8 0) (same.set 44 _ rfl)
theorem sp_X8_remembers (hM : moW r U fk Kp T ln nu kn ua n sk sw) (hua : ua < 10) (hk : kn ≤ 10) (h1 : ∀ U' sw', remP U r ua U' → moW r (U') fk Kp T ln nu (min (kn + 1) 10) ((ua + 1) % 10) n sk sw' → same 44 11 sw sw' → Qs none sw') : gv_S ε d m_X8_remembers [.ref 44] sw Qs := by
  have loop : ∀ (m k : Nat) (U1 : Nat → Nat) (sw1 : List va_E), k + m = 58 → (∀ j, j < k → U1 (58 * ua + j) = r j) → (∀ i, (i < 58 * ua ∨ 58 * ua + 58 ≤ i) → U1 i = U i) → moW r (U1) fk Kp T ln nu kn ua n sk sw1 → same 44 11 sw sw1 → gv_M ε d m_X8_remembers sw.length Qs 2 [some (.ref 44), some (.int (nI k))] [] sw1 0 0 := by
    intro m
    induction m with
    | zero =>
      intro k U1 sw1 hkm g1 g2 hM1 m1
      obtain ⟨afs, a8, al, a0, a1, a2, a3, a4, a5, a6, a7, a17, a18, a19, aN, aU, aK, aP, aT, aA, aB⟩ := hM1.view
      refine t_X8_remembers_2 (t_X8_remembers_3 (t_X8_remembers_5N (by omega) (by omega) (fun h => ?_) (fun h => absurd h (by omega))))
      refine t_X8_remembers_34 (t_X8_remembers_35 (t_X8_remembers_36 a8 a2 (t_X8_remembers_39 (t_X8_remembers_40N (t_X8_remembers_41 (t_X8_remembers_43N (by omega) (by decide) (by decide) (t_X8_remembers_44 a8 al (?_))))))))
      have hM2 := hM1.f2 a8 ((ua + 1) % 10)
      have m2 : same 44 11 sw1 _ := same.set 44 (.inr (8, afs.set 2 (.int (nI ((ua + 1) % 10))))) rfl
      generalize List.set sw1 _ _ = sw2 at hM2 m2 ⊢
      obtain ⟨bfs, b8, bl, b0, b1, b2, b3, b4, b5, b6, b7, b17, b18, b19, bN, bU, bK, bP, bT, bA, bB⟩ := hM2.view
      have hp : remP U r ua U1 := ⟨fun j hj => g1 j (by omega), g2⟩
      refine t_X8_remembers_47 (t_X8_remembers_48 rfl (t_X8_remembers_49 b8 b1 (t_X8_remembers_52 (t_X8_remembers_53 b8 b1 (t_X8_remembers_56 (t_X8_remembers_58N (by omega) (by omega) (fun g => ?_) (fun g => ?_)))))))
      · refine t_X8_remembers_65 (t_X8_remembers_66N (t_X8_remembers_67 b8 bl (t_X8_remembers_70 (Nat.le_refl _) ?_)))
        have := h1 U1 _ hp (by rw [show min (kn + 1) 10 = kn + 0 by omega]; exact hM2.f1 b8 (kn + 0)) ((m1.tr m2).tr (same.set 44 (.inr (8, bfs.set 1 (.int (nI (kn + 0))))) rfl))
        exact this
      · refine t_X8_remembers_61 (t_X8_remembers_62 (t_X8_remembers_66N (t_X8_remembers_67 b8 bl (t_X8_remembers_70 (Nat.le_refl _) ?_))))
        have := h1 U1 _ hp (by rw [show min (kn + 1) 10 = kn + 1 by omega]; exact hM2.f1 b8 (kn + 1)) ((m1.tr m2).tr (same.set 44 (.inr (8, bfs.set 1 (.int (nI (kn + 1))))) rfl))
        exact this
    | succ m ih =>
      intro k U1 sw1 hkm g1 g2 hM1 m1
      obtain ⟨afs, a8, al, a0, a1, a2, a3, a4, a5, a6, a7, a17, a18, a19, aN, aU, aK, aP, aT, aA, aB⟩ := hM1.view
      refine t_X8_remembers_2 (t_X8_remembers_3 (t_X8_remembers_5N (by omega) (by omega) (fun h => absurd h (by omega)) (fun h => ?_)))
      refine t_X8_remembers_8 (t_X8_remembers_9 a8 a3 (t_X8_remembers_12 (t_X8_remembers_14 (t_X8_remembers_15 a8 a2 (t_X8_remembers_18N (t_X8_remembers_19 (t_X8_remembers_20N (t_X8_remembers_21 (t_X8_remembers_22 a8 a0 (t_X8_remembers_25 (t_X8_remembers_26 aN k h rfl (by decide) (t_X8_remembers_27 aU (58 * ua + k) (by omega) rfl (by decide) (t_X8_remembers_28N (t_X8_remembers_31 (?_)))))))))))))))
      rw [nI_set]
      refine ih (k + 1) (fun i => if i = 58 * ua + k then r k else U1 i) _ (by omega) (fun j hj => ?_) (fun i hi => ?_) (hM1.sU _) (m1.tr (same.set 46 _ rfl))
      · by_cases e : j = k
        · subst e
          exact if_pos rfl
        · show (if _ then _ else _) = _
          rw [if_neg (by omega)]
          exact g1 j (by omega)
      · show (if _ then _ else _) = _
        rw [if_neg (by omega)]
        exact g2 i hi
  refine gv_S.go rfl ?_
  refine t_X8_remembers_0 (t_X8_remembers_1 (?_))
  exact loop 58 0 U sw (by decide) (fun j hj => absurd hj (by omega)) (fun _ _ => rfl) hM same.rf
theorem sp_X8_lays (p w : Nat) (hM : moW r U fk Kp T ln nu kn ua n sk sw) (hua : ua < 10) (hk : kn ≤ 10) (hp : p < 58) (hw : w < 2 ^ 31) (hrp : r p < 2 ^ 31) (h1 : r p = w → Qs (some (.int (-2))) sw) (h2 : r p ≠ w → ∀ U' sw', remP U r ua U' → moW (up r p w) (U') fk Kp T ln nu (min (kn + 1) 10) ((ua + 1) % 10) n sk sw' → same 44 11 sw sw' → Qs (some (.int (nI (r p)))) sw') : gv_S ε (d + 1) m_X8_lays [.ref 44, .int (nI p), .int (nI w)] sw Qs := by
  obtain ⟨afs, a8, al, a0, a1, a2, a3, a4, a5, a6, a7, a17, a18, a19, aN, aU, aK, aP, aT, aA, aB⟩ := hM.view
  refine gv_S.go rfl ?_
  refine t_X8_lays_0 (t_X8_lays_1 a8 a0 (t_X8_lays_4 (t_X8_lays_5 aN p hp rfl (by decide) (t_X8_lays_6 (t_X8_lays_7 (t_X8_lays_8 (t_X8_lays_9N hrp hw (fun g => ?_) (fun g => ?_))))))))
  · refine t_X8_lays_15 (t_X8_lays_16 a8 (Nat.le_of_ble_eq_true rfl) (sp_X8_remembers hM hua hk (fun U' sw1 hR hM1 m1 => ?_)))
    obtain ⟨bfs, b8, bl, b0, b1, b2, b3, b4, b5, b6, b7, b17, b18, b19, bN, bU, bK, bP, bT, bA, bB⟩ := hM1.view
    refine t_X8_lays_19 (t_X8_lays_20 b8 b0 (t_X8_lays_23 (t_X8_lays_24 (t_X8_lays_25 bN p hp rfl (by decide) (?_)))))
    rw [nI_set]
    refine t_X8_lays_26 (t_X8_lays_27 ?_)
    exact h2 g U' _ hR (hM1.sR (up r p w)) (m1.tr (same.set 45 _ rfl))
  · refine t_X8_lays_12 (t_X8_lays_14 ?_)
    exact h1 g
end S8
