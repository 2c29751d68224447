/-! the whole law -/
section LA
variable {s dr i0 i1 : shT} {T : Nat → Nat} {n : Nat} {x : Nat → Int32} {K P W : Nat → Nat} {kn sk : Nat} {ln nu fl : Nat → Nat} {sw sw' : List va_E}
theorem clW.low (h : clW s dr i0 i1 T n x K P W kn sk ln nu fl sw) (hs : low 44 sw sw') : clW s dr i0 i1 T n x K P W kn sk ln nu fl sw' := by
  obtain ⟨a0, a1, a2, a3, a4, a5, ⟨f, f0, f1, a6⟩, ⟨J0, A, lt, co, b2, b3, b4⟩, a8, a9⟩ := h
  exact ⟨a0.low hs rfl, a1.low hs rfl, a2.low hs rfl, a3.low hs rfl, a4.low hs rfl, a5.low hs rfl, ⟨f, f0, f1, a6.low hs rfl⟩, ⟨J0, A, lt, co, b2.low hs rfl, b3.low hs rfl, b4.low hs rfl⟩, a8.low hs rfl, a9.low hs rfl⟩
end LA
theorem law_all {ε : gv_E} {Z : State → List Frame → Array Value → State → Prop} (hN2 : (gv_x ε 3).1 ≤ 2048) (hend : ∀ (i : Nat) (sw : List va_E), gv_G ε room_1 m_L_law 0 Z 920 [some (.ref 1003), some (.ref 0), some (.ref 44), some (.int (nI i))] [] sw 55 1869) : gv_G ε room_1 m_L_law 0 Z 0 [some (.ref 1003), none, none, none] [] [] 0 0 := by
  have w0 : wt 0 [.inr (7, [.null, .null, .null, .null, .null, .null, .null, .null, .null, .null])] ([] ++ [.inr (7, [.null, .null, .null, .null, .null, .null, .null, .null, .null, .null])]) := (wt.nil (b := 0) (sw := [])).push rfl
  refine t_L_law_0 (by decide) (Nat.le_of_ble_eq_true rfl) (Nat.le_of_ble_eq_true rfl) (t_L_law_3 rfl (t_L_law_4 (Nat.le_of_ble_eq_true rfl) (Nat.le_of_ble_eq_true rfl) (Nat.le_of_ble_eq_true rfl) (in_X7 w0 rfl (fun s dr i0 i1 sw1 hR ho l1 hC => ?_))))
  refine t_L_law_7 (t_L_law_8 (by omega) (Nat.le_of_ble_eq_true rfl) (Nat.le_of_ble_eq_true rfl) (?_))
  rw [l1]
  have w1 : wt 44 [.inr (8, [.null, .int 0, .int 0, .null, .null, .null, .int 0, .null, .int 0, .int 0, .int 0, .null, .int 0, .null, .null, .int 0, .long 0, .int 0, .null, .null])] _ := (wt.nil (b := 44) (sw := sw1)).push (x := .inr (8, [.null, .int 0, .int 0, .null, .null, .null, .int 0, .null, .int 0, .int 0, .int 0, .null, .int 0, .null, .null, .int 0, .long 0, .int 0, .null, .null])) l1
  have l2 : (sw1 ++ [(.inr (8, [.null, .int 0, .int 0, .null, .null, .null, .int 0, .null, .int 0, .int 0, .int 0, .null, .int 0, .null, .null, .int 0, .long 0, .int 0, .null, .null]) : va_E)]).length = 45 := by rw [List.length_append, l1]; rfl
  have q2 : low 44 sw1 (sw1 ++ [(.inr (8, [.null, .int 0, .int 0, .null, .null, .null, .int 0, .null, .int 0, .int 0, .int 0, .null, .int 0, .null, .null, .int 0, .long 0, .int 0, .null, .null]) : va_E)]) := low.push (by omega)
  generalize sw1 ++ _ = sw2 at w1 l2 q2 ⊢
  have hC2 := hC.low q2
  refine t_L_law_11 rfl (t_L_law_12 (Nat.le_of_ble_eq_true rfl) (Nat.le_of_ble_eq_true rfl) (Nat.le_of_ble_eq_true rfl) (in_X8 w1 l2 (fun sw3 l3 q3 hM => ?_)))
  have hC3 := hC2.low q3
  refine t_L_law_15 (t_L_law_16 (t_L_law_17 (?_)))
  refine law_loop hN2 hend (gv_x ε 3).1 0 sw3 (by omega) (by omega) ⟨_, _, _, _, _, _, _, _, _, _, _, _, _, _, _, _, _, _, _, _, hC3, hM, ho, hR.cong (fun i hi => begF_bg _ i hi), ⟨Nat.zero_le _, fun j hj => absurd hj (Nat.not_lt_zero _)⟩, Nat.zero_le _, by decide, ⟨Nat.zero_le _, fun j hj => absurd hj (Nat.not_lt_zero _)⟩, fun j _ => ⟨Nat.zero_le _, rfl⟩, fun z => absurd z (by decide), fun z => absurd z (by decide), fun j hj => absurd hj (Nat.not_lt_zero _)⟩
/-! the surroundings -/
theorem gv_arr {args : Array Value} {s : State} {ty : FieldType} (hty : ∀ C, ty ≠ .object C) (h : (Cond.arrayClass ty).before args s = true) : ∃ cA : ClassId, ArrOfT s cA ty ∧ va_RA s cA ty := by
  obtain ⟨cA, kA, comp, h1, h2, h3⟩ := Cond.arrayClass_spec h
  refine ⟨cA, fun n z => ⟨fun k h => (by cases h), kA, h2, comp, h3⟩, ?_⟩
  unfold va_RA
  split
  · rename_i C
    exact absurd rfl (hty C)
  · exact h1
theorem gv_arrO {args : Array Value} {s : State} {C : String} (h : (Cond.arrayOver (.object C)).before args s = true) : ∃ cA : ClassId, ArrOfT s cA (.object C) ∧ va_RA s cA (.object C) := by
  obtain ⟨comp, cA, kA, h1, h2, h3, h4, h5⟩ := Cond.arrayOver_spec h
  exact ⟨cA, fun n z => ⟨fun k h => (by cases h), kA, h3, comp, h4⟩, kA, comp, h3, h4, h1, h5⟩
