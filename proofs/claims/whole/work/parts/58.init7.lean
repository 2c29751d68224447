/-! the constructor of StrikePasses (printed by gen_init7.py) -/
theorem wt.nil {b : Nat} {sw : List va_E} : wt b [] sw := fun k e he => by cases he
section IN7
variable {ε : gv_E} {d : Nat} {Qs : Option Value → List va_E → Prop} {sw : List va_E}
theorem in_X7 (hw : wt 0 [.inr (7, [.null, .null, .null, .null, .null, .null, .null, .null, .null, .null])] sw) (hl : sw.length = 1) (h1 : ∀ s dr i0 i1 sw', Rel s bgR → shOk s → sw'.length = 44 → clW s dr i0 i1 (fun _ => 0) 0 (fun _ => 0) (fun _ => 0) (fun _ => 0) (fun _ => 0) 0 0 (fun _ => 0) (fun _ => 0) (fun _ => 0) sw' → Qs none sw') : gv_S ε (d + 3) m_X7_init [.ref 0] sw Qs := by
  refine gv_S.go rfl ?_
  refine t_X7_init_0 (t_X7_init_1 gv_rmok (Nat.le_of_ble_eq_true rfl) (t_X7_init_4 (t_X7_init_5 (by omega) (Nat.le_of_ble_eq_true rfl) (Nat.le_of_ble_eq_true rfl) (?_))))
  rw [hl]
  have n1 : wt 1 [.inr (3, [.null, .int 0, .int 0, .int 0, .int 0, .int 0])] _ := (wt.nil (b := 1) (sw := sw)).push (x := .inr (3, [.null, .int 0, .int 0, .int 0, .int 0, .int 0])) hl
  have l1 : (sw ++ [(.inr (3, [.null, .int 0, .int 0, .int 0, .int 0, .int 0]) : va_E)]).length = 1 + 1 := by rw [List.length_append, hl]; rfl
  have q1 : low 1 sw (sw ++ [(.inr (3, [.null, .int 0, .int 0, .int 0, .int 0, .int 0]) : va_E)]) := low.push (by omega)
  generalize sw ++ _ = s1 at n1 l1 q1 ⊢
  have hw := hw.low q1 rfl
  refine t_X7_init_8 rfl (t_X7_init_9 (Nat.le_of_ble_eq_true rfl) (Nat.le_of_ble_eq_true rfl) (Nat.le_of_ble_eq_true rfl) (in_X3 n1 l1 (by decide) (fun s2 l2 q2 c1 => ?_)))
  have hw := hw.low q2 rfl
  have o7 : s2[0]? = some (.inr (7, [.null, .null, .null, .null, .null, .null, .null, .null, .null, .null])) := hw.at 0 rfl
  refine t_X7_init_12 o7 rfl (?_)
  have hw : wt 0 [.inr (7, [.ref 1, .null, .null, .null, .null, .null, .null, .null, .null, .null])] _ := hw.set 0 (.inr (7, [.ref 1, .null, .null, .null, .null, .null, .null, .null, .null, .null])) rfl
  have m3 : same 0 1 s2 _ := same.set 0 (.inr (7, [.ref 1, .null, .null, .null, .null, .null, .null, .null, .null, .null])) rfl
  have l3 : (s2.set (0 + 0) (.inr (7, [.ref 1, .null, .null, .null, .null, .null, .null, .null, .null, .null]))).length = 3 := by rw [List.length_set]; exact l2
  show gv_M ε (d + 3) m_X7_init _ Qs 15 _ _ (List.set s2 (0 + 0) (.inr (7, [.ref 1, .null, .null, .null, .null, .null, .null, .null, .null, .null]))) _ _
  generalize List.set s2 _ _ = s3 at hw m3 l3 ⊢
  have c1 := c1.keep m3 rfl
  refine t_X7_init_15 (t_X7_init_16 (by omega) (Nat.le_of_ble_eq_true rfl) (Nat.le_of_ble_eq_true rfl) (?_))
  rw [l3]
  have n4 : wt 3 [.inr (4, [.null, .null, .null, .null, .int 0])] _ := (wt.nil (b := 3) (sw := s3)).push (x := .inr (4, [.null, .null, .null, .null, .int 0])) l3
  have l4 : (s3 ++ [(.inr (4, [.null, .null, .null, .null, .int 0]) : va_E)]).length = 3 + 1 := by rw [List.length_append, l3]; rfl
  have q4 : low 3 s3 (s3 ++ [(.inr (4, [.null, .null, .null, .null, .int 0]) : va_E)]) := low.push (by omega)
  generalize s3 ++ _ = s4 at n4 l4 q4 ⊢
  have hw := hw.low q4 rfl
  have c1 := c1.low q4 rfl
  refine t_X7_init_19 rfl (t_X7_init_20 (Nat.le_of_ble_eq_true rfl) (Nat.le_of_ble_eq_true rfl) (Nat.le_of_ble_eq_true rfl) (in_X4 n4 l4 (by decide) (fun tc3 s5 hRc3 hOc3 l5 q5 c3 => ?_)))
  have hw := hw.low q5 rfl
  have c1 := c1.low q5 rfl
  have o7 : s5[0]? = some (.inr (7, [.ref 1, .null, .null, .null, .null, .null, .null, .null, .null, .null])) := hw.at 0 rfl
  refine t_X7_init_23 o7 rfl (?_)
  have hw : wt 0 [.inr (7, [.ref 1, .ref 3, .null, .null, .null, .null, .null, .null, .null, .null])] _ := hw.set 0 (.inr (7, [.ref 1, .ref 3, .null, .null, .null, .null, .null, .null, .null, .null])) rfl
  have m6 : same 0 1 s5 _ := same.set 0 (.inr (7, [.ref 1, .ref 3, .null, .null, .null, .null, .null, .null, .null, .null])) rfl
  have l6 : (s5.set (0 + 0) (.inr (7, [.ref 1, .ref 3, .null, .null, .null, .null, .null, .null, .null, .null]))).length = 8 := by rw [List.length_set]; exact l5
  show gv_M ε (d + 3) m_X7_init _ Qs 26 _ _ (List.set s5 (0 + 0) (.inr (7, [.ref 1, .ref 3, .null, .null, .null, .null, .null, .null, .null, .null]))) _ _
  generalize List.set s5 _ _ = s6 at hw m6 l6 ⊢
  have c1 := c1.keep m6 rfl
  have c3 := c3.keep m6 rfl
  refine t_X7_init_26 (t_X7_init_27 (by omega) (Nat.le_of_ble_eq_true rfl) (Nat.le_of_ble_eq_true rfl) (?_))
  rw [l6]
  have n7 : wt 8 [.inr (4, [.null, .null, .null, .null, .int 0])] _ := (wt.nil (b := 8) (sw := s6)).push (x := .inr (4, [.null, .null, .null, .null, .int 0])) l6
  have l7 : (s6 ++ [(.inr (4, [.null, .null, .null, .null, .int 0]) : va_E)]).length = 8 + 1 := by rw [List.length_append, l6]; rfl
  have q7 : low 8 s6 (s6 ++ [(.inr (4, [.null, .null, .null, .null, .int 0]) : va_E)]) := low.push (by omega)
  generalize s6 ++ _ = s7 at n7 l7 q7 ⊢
  have hw := hw.low q7 rfl
  have c1 := c1.low q7 rfl
  have c3 := c3.low q7 rfl
  refine t_X7_init_30 rfl (t_X7_init_31 (Nat.le_of_ble_eq_true rfl) (Nat.le_of_ble_eq_true rfl) (Nat.le_of_ble_eq_true rfl) (in_X4 n7 l7 (by decide) (fun tc8 s8 hRc8 hOc8 l8 q8 c8 => ?_)))
  have hw := hw.low q8 rfl
  have c1 := c1.low q8 rfl
  have c3 := c3.low q8 rfl
  have o7 : s8[0]? = some (.inr (7, [.ref 1, .ref 3, .null, .null, .null, .null, .null, .null, .null, .null])) := hw.at 0 rfl
  refine t_X7_init_34 o7 rfl (?_)
  have hw : wt 0 [.inr (7, [.ref 1, .ref 3, .ref 8, .null, .null, .null, .null, .null, .null, .null])] _ := hw.set 0 (.inr (7, [.ref 1, .ref 3, .ref 8, .null, .null, .null, .null, .null, .null, .null])) rfl
  have m9 : same 0 1 s8 _ := same.set 0 (.inr (7, [.ref 1, .ref 3, .ref 8, .null, .null, .null, .null, .null, .null, .null])) rfl
  have l9 : (s8.set (0 + 0) (.inr (7, [.ref 1, .ref 3, .ref 8, .null, .null, .null, .null, .null, .null, .null]))).length = 13 := by rw [List.length_set]; exact l8
  show gv_M ε (d + 3) m_X7_init _ Qs 37 _ _ (List.set s8 (0 + 0) (.inr (7, [.ref 1, .ref 3, .ref 8, .null, .null, .null, .null, .null, .null, .null]))) _ _
  generalize List.set s8 _ _ = s9 at hw m9 l9 ⊢
  have c1 := c1.keep m9 rfl
  have c3 := c3.keep m9 rfl
  have c8 := c8.keep m9 rfl
  refine t_X7_init_37 (t_X7_init_38 (by omega) (Nat.le_of_ble_eq_true rfl) (Nat.le_of_ble_eq_true rfl) (?_))
  rw [l9]
  have n10 : wt 13 [.inr (2, [.null, .null, .null, .int 0])] _ := (wt.nil (b := 13) (sw := s9)).push (x := .inr (2, [.null, .null, .null, .int 0])) l9
  have l10 : (s9 ++ [(.inr (2, [.null, .null, .null, .int 0]) : va_E)]).length = 13 + 1 := by rw [List.length_append, l9]; rfl
  have q10 : low 13 s9 (s9 ++ [(.inr (2, [.null, .null, .null, .int 0]) : va_E)]) := low.push (by omega)
  generalize s9 ++ _ = s10 at n10 l10 q10 ⊢
  have hw := hw.low q10 rfl
  have c1 := c1.low q10 rfl
  have c3 := c3.low q10 rfl
  have c8 := c8.low q10 rfl
  refine t_X7_init_41 rfl (t_X7_init_42 (Nat.le_of_ble_eq_true rfl) (Nat.le_of_ble_eq_true rfl) (Nat.le_of_ble_eq_true rfl) (in_X2 n10 l10 (by decide) (fun s11 l11 q11 c13 => ?_)))
  have hw := hw.low q11 rfl
  have c1 := c1.low q11 rfl
  have c3 := c3.low q11 rfl
  have c8 := c8.low q11 rfl
  have o7 : s11[0]? = some (.inr (7, [.ref 1, .ref 3, .ref 8, .null, .null, .null, .null, .null, .null, .null])) := hw.at 0 rfl
  refine t_X7_init_45 o7 rfl (?_)
  have hw : wt 0 [.inr (7, [.ref 1, .ref 3, .ref 8, .ref 13, .null, .null, .null, .null, .null, .null])] _ := hw.set 0 (.inr (7, [.ref 1, .ref 3, .ref 8, .ref 13, .null, .null, .null, .null, .null, .null])) rfl
  have m12 : same 0 1 s11 _ := same.set 0 (.inr (7, [.ref 1, .ref 3, .ref 8, .ref 13, .null, .null, .null, .null, .null, .null])) rfl
  have l12 : (s11.set (0 + 0) (.inr (7, [.ref 1, .ref 3, .ref 8, .ref 13, .null, .null, .null, .null, .null, .null]))).length = 17 := by rw [List.length_set]; exact l11
  show gv_M ε (d + 3) m_X7_init _ Qs 48 _ _ (List.set s11 (0 + 0) (.inr (7, [.ref 1, .ref 3, .ref 8, .ref 13, .null, .null, .null, .null, .null, .null]))) _ _
  generalize List.set s11 _ _ = s12 at hw m12 l12 ⊢
  have c1 := c1.keep m12 rfl
  have c3 := c3.keep m12 rfl
  have c8 := c8.keep m12 rfl
  have c13 := c13.keep m12 rfl
  refine t_X7_init_48 (t_X7_init_49 (by omega) (Nat.le_of_ble_eq_true rfl) (Nat.le_of_ble_eq_true rfl) (?_))
  rw [l12]
  have n13 : wt 17 [.inr (5, [.null, .null, .int 0])] _ := (wt.nil (b := 17) (sw := s12)).push (x := .inr (5, [.null, .null, .int 0])) l12
  have l13 : (s12 ++ [(.inr (5, [.null, .null, .int 0]) : va_E)]).length = 17 + 1 := by rw [List.length_append, l12]; rfl
  have q13 : low 17 s12 (s12 ++ [(.inr (5, [.null, .null, .int 0]) : va_E)]) := low.push (by omega)
  generalize s12 ++ _ = s13 at n13 l13 q13 ⊢
  have hw := hw.low q13 rfl
  have c1 := c1.low q13 rfl
  have c3 := c3.low q13 rfl
  have c8 := c8.low q13 rfl
  have c13 := c13.low q13 rfl
  refine t_X7_init_52 rfl (t_X7_init_53 (Nat.le_of_ble_eq_true rfl) (Nat.le_of_ble_eq_true rfl) (Nat.le_of_ble_eq_true rfl) (in_X5 n13 l13 (by decide) (fun s14 l14 q14 c17 => ?_)))
  have hw := hw.low q14 rfl
  have c1 := c1.low q14 rfl
  have c3 := c3.low q14 rfl
  have c8 := c8.low q14 rfl
  have c13 := c13.low q14 rfl
  have o7 : s14[0]? = some (.inr (7, [.ref 1, .ref 3, .ref 8, .ref 13, .null, .null, .null, .null, .null, .null])) := hw.at 0 rfl
  refine t_X7_init_56 o7 rfl (?_)
  have hw : wt 0 [.inr (7, [.ref 1, .ref 3, .ref 8, .ref 13, .ref 17, .null, .null, .null, .null, .null])] _ := hw.set 0 (.inr (7, [.ref 1, .ref 3, .ref 8, .ref 13, .ref 17, .null, .null, .null, .null, .null])) rfl
  have m15 : same 0 1 s14 _ := same.set 0 (.inr (7, [.ref 1, .ref 3, .ref 8, .ref 13, .ref 17, .null, .null, .null, .null, .null])) rfl
  have l15 : (s14.set (0 + 0) (.inr (7, [.ref 1, .ref 3, .ref 8, .ref 13, .ref 17, .null, .null, .null, .null, .null]))).length = 20 := by rw [List.length_set]; exact l14
  show gv_M ε (d + 3) m_X7_init _ Qs 59 _ _ (List.set s14 (0 + 0) (.inr (7, [.ref 1, .ref 3, .ref 8, .ref 13, .ref 17, .null, .null, .null, .null, .null]))) _ _
  generalize List.set s14 _ _ = s15 at hw m15 l15 ⊢
  have c1 := c1.keep m15 rfl
  have c3 := c3.keep m15 rfl
  have c8 := c8.keep m15 rfl
  have c13 := c13.keep m15 rfl
  have c17 := c17.keep m15 rfl
  refine t_X7_init_59 (t_X7_init_60 (t_X7_init_61 (N := 2) (by decide) (by decide) (by decide) (by omega) (Nat.le_of_ble_eq_true rfl) (Nat.le_of_ble_eq_true rfl) (?_)))
  rw [l15]
  have n16 : wt 20 [.inl (2, 2, .inr (.inr (.inr (.inr (fun _ => none)))))] _ := (wt.nil (b := 20) (sw := s15)).push (x := .inl (2, 2, .inr (.inr (.inr (.inr (fun _ => none)))))) l15
  have l16 : (s15 ++ [(.inl (2, 2, .inr (.inr (.inr (.inr (fun _ => none))))) : va_E)]).length = 20 + 1 := by rw [List.length_append, l15]; rfl
  have q16 : low 20 s15 (s15 ++ [(.inl (2, 2, .inr (.inr (.inr (.inr (fun _ => none))))) : va_E)]) := low.push (by omega)
  generalize s15 ++ _ = s16 at n16 l16 q16 ⊢
  have hw := hw.low q16 rfl
  have c1 := c1.low q16 rfl
  have c3 := c3.low q16 rfl
  have c8 := c8.low q16 rfl
  have c13 := c13.low q16 rfl
  have c17 := c17.low q16 rfl
  have c20 := n16
  have o7 : s16[0]? = some (.inr (7, [.ref 1, .ref 3, .ref 8, .ref 13, .ref 17, .null, .null, .null, .null, .null])) := hw.at 0 rfl
  refine t_X7_init_64 o7 rfl (?_)
  have hw : wt 0 [.inr (7, [.ref 1, .ref 3, .ref 8, .ref 13, .ref 17, .ref 20, .null, .null, .null, .null])] _ := hw.set 0 (.inr (7, [.ref 1, .ref 3, .ref 8, .ref 13, .ref 17, .ref 20, .null, .null, .null, .null])) rfl
  have m17 : same 0 1 s16 _ := same.set 0 (.inr (7, [.ref 1, .ref 3, .ref 8, .ref 13, .ref 17, .ref 20, .null, .null, .null, .null])) rfl
  have l17 : (s16.set (0 + 0) (.inr (7, [.ref 1, .ref 3, .ref 8, .ref 13, .ref 17, .ref 20, .null, .null, .null, .null]))).length = 21 := by rw [List.length_set]; exact l16
  show gv_M ε (d + 3) m_X7_init _ Qs 67 _ _ (List.set s16 (0 + 0) (.inr (7, [.ref 1, .ref 3, .ref 8, .ref 13, .ref 17, .ref 20, .null, .null, .null, .null]))) _ _
  generalize List.set s16 _ _ = s17 at hw m17 l17 ⊢
  have c1 := c1.keep m17 rfl
  have c3 := c3.keep m17 rfl
  have c8 := c8.keep m17 rfl
  have c13 := c13.keep m17 rfl
  have c17 := c17.keep m17 rfl
  have c20 := c20.keep m17 rfl
  refine t_X7_init_67 (t_X7_init_68 (t_X7_init_69 (N := 2) (by decide) (by decide) (by decide) (by omega) (Nat.le_of_ble_eq_true rfl) (Nat.le_of_ble_eq_true rfl) (?_)))
  rw [l17]
  have n18 : wt 21 [.inl (1, 2, .inl (fun _ => 0))] _ := (wt.nil (b := 21) (sw := s17)).push (x := .inl (1, 2, .inl (fun _ => 0))) l17
  have l18 : (s17 ++ [(.inl (1, 2, .inl (fun _ => 0)) : va_E)]).length = 21 + 1 := by rw [List.length_append, l17]; rfl
  have q18 : low 21 s17 (s17 ++ [(.inl (1, 2, .inl (fun _ => 0)) : va_E)]) := low.push (by omega)
  generalize s17 ++ _ = s18 at n18 l18 q18 ⊢
  have hw := hw.low q18 rfl
  have c1 := c1.low q18 rfl
  have c3 := c3.low q18 rfl
  have c8 := c8.low q18 rfl
  have c13 := c13.low q18 rfl
  have c17 := c17.low q18 rfl
  have c20 := c20.low q18 rfl
  have c21 := n18
  have o7 : s18[0]? = some (.inr (7, [.ref 1, .ref 3, .ref 8, .ref 13, .ref 17, .ref 20, .null, .null, .null, .null])) := hw.at 0 rfl
  refine t_X7_init_71 o7 rfl (?_)
  have hw : wt 0 [.inr (7, [.ref 1, .ref 3, .ref 8, .ref 13, .ref 17, .ref 20, .ref 21, .null, .null, .null])] _ := hw.set 0 (.inr (7, [.ref 1, .ref 3, .ref 8, .ref 13, .ref 17, .ref 20, .ref 21, .null, .null, .null])) rfl
  have m19 : same 0 1 s18 _ := same.set 0 (.inr (7, [.ref 1, .ref 3, .ref 8, .ref 13, .ref 17, .ref 20, .ref 21, .null, .null, .null])) rfl
  have l19 : (s18.set (0 + 0) (.inr (7, [.ref 1, .ref 3, .ref 8, .ref 13, .ref 17, .ref 20, .ref 21, .null, .null, .null]))).length = 22 := by rw [List.length_set]; exact l18
  show gv_M ε (d + 3) m_X7_init _ Qs 74 _ _ (List.set s18 (0 + 0) (.inr (7, [.ref 1, .ref 3, .ref 8, .ref 13, .ref 17, .ref 20, .ref 21, .null, .null, .null]))) _ _
  generalize List.set s18 _ _ = s19 at hw m19 l19 ⊢
  have c1 := c1.keep m19 rfl
  have c3 := c3.keep m19 rfl
  have c8 := c8.keep m19 rfl
  have c13 := c13.keep m19 rfl
  have c17 := c17.keep m19 rfl
  have c20 := c20.keep m19 rfl
  have c21 := c21.keep m19 rfl
  refine t_X7_init_74 (t_X7_init_75 (by omega) (Nat.le_of_ble_eq_true rfl) (Nat.le_of_ble_eq_true rfl) (?_))
  rw [l19]
  have n20 : wt 22 [.inr (6, [.null])] _ := (wt.nil (b := 22) (sw := s19)).push (x := .inr (6, [.null])) l19
  have l20 : (s19 ++ [(.inr (6, [.null]) : va_E)]).length = 22 + 1 := by rw [List.length_append, l19]; rfl
  have q20 : low 22 s19 (s19 ++ [(.inr (6, [.null]) : va_E)]) := low.push (by omega)
  generalize s19 ++ _ = s20 at n20 l20 q20 ⊢
  have hw := hw.low q20 rfl
  have c1 := c1.low q20 rfl
  have c3 := c3.low q20 rfl
  have c8 := c8.low q20 rfl
  have c13 := c13.low q20 rfl
  have c17 := c17.low q20 rfl
  have c20 := c20.low q20 rfl
  have c21 := c21.low q20 rfl
  refine t_X7_init_78 rfl (t_X7_init_79 (Nat.le_of_ble_eq_true rfl) (Nat.le_of_ble_eq_true rfl) (Nat.le_of_ble_eq_true rfl) (in_X6 n20 l20 (by decide) (fun s21 l21 q21 c22 => ?_)))
  have hw := hw.low q21 rfl
  have c1 := c1.low q21 rfl
  have c3 := c3.low q21 rfl
  have c8 := c8.low q21 rfl
  have c13 := c13.low q21 rfl
  have c17 := c17.low q21 rfl
  have c20 := c20.low q21 rfl
  have c21 := c21.low q21 rfl
  have o7 : s21[0]? = some (.inr (7, [.ref 1, .ref 3, .ref 8, .ref 13, .ref 17, .ref 20, .ref 21, .null, .null, .null])) := hw.at 0 rfl
  refine t_X7_init_82 o7 rfl (?_)
  have hw : wt 0 [.inr (7, [.ref 1, .ref 3, .ref 8, .ref 13, .ref 17, .ref 20, .ref 21, .ref 22, .null, .null])] _ := hw.set 0 (.inr (7, [.ref 1, .ref 3, .ref 8, .ref 13, .ref 17, .ref 20, .ref 21, .ref 22, .null, .null])) rfl
  have m22 : same 0 1 s21 _ := same.set 0 (.inr (7, [.ref 1, .ref 3, .ref 8, .ref 13, .ref 17, .ref 20, .ref 21, .ref 22, .null, .null])) rfl
  have l22 : (s21.set (0 + 0) (.inr (7, [.ref 1, .ref 3, .ref 8, .ref 13, .ref 17, .ref 20, .ref 21, .ref 22, .null, .null]))).length = 24 := by rw [List.length_set]; exact l21
  show gv_M ε (d + 3) m_X7_init _ Qs 85 _ _ (List.set s21 (0 + 0) (.inr (7, [.ref 1, .ref 3, .ref 8, .ref 13, .ref 17, .ref 20, .ref 21, .ref 22, .null, .null]))) _ _
  generalize List.set s21 _ _ = s22 at hw m22 l22 ⊢
  have c1 := c1.keep m22 rfl
  have c3 := c3.keep m22 rfl
  have c8 := c8.keep m22 rfl
  have c13 := c13.keep m22 rfl
  have c17 := c17.keep m22 rfl
  have c20 := c20.keep m22 rfl
  have c21 := c21.keep m22 rfl
  have c22 := c22.keep m22 rfl
  refine t_X7_init_85 (t_X7_init_86 (by omega) (Nat.le_of_ble_eq_true rfl) (Nat.le_of_ble_eq_true rfl) (?_))
  rw [l22]
  have n23 : wt 24 [.inr (1, [.null, .null])] _ := (wt.nil (b := 24) (sw := s22)).push (x := .inr (1, [.null, .null])) l22
  have l23 : (s22 ++ [(.inr (1, [.null, .null]) : va_E)]).length = 24 + 1 := by rw [List.length_append, l22]; rfl
  have q23 : low 24 s22 (s22 ++ [(.inr (1, [.null, .null]) : va_E)]) := low.push (by omega)
  generalize s22 ++ _ = s23 at n23 l23 q23 ⊢
  have hw := hw.low q23 rfl
  have c1 := c1.low q23 rfl
  have c3 := c3.low q23 rfl
  have c8 := c8.low q23 rfl
  have c13 := c13.low q23 rfl
  have c17 := c17.low q23 rfl
  have c20 := c20.low q23 rfl
  have c21 := c21.low q23 rfl
  have c22 := c22.low q23 rfl
  refine t_X7_init_89 rfl (t_X7_init_90 (Nat.le_of_ble_eq_true rfl) (Nat.le_of_ble_eq_true rfl) (Nat.le_of_ble_eq_true rfl) (in_X1 n23 l23 (by decide) (fun s24 l24 q24 c24 => ?_)))
  have hw := hw.low q24 rfl
  have c1 := c1.low q24 rfl
  have c3 := c3.low q24 rfl
  have c8 := c8.low q24 rfl
  have c13 := c13.low q24 rfl
  have c17 := c17.low q24 rfl
  have c20 := c20.low q24 rfl
  have c21 := c21.low q24 rfl
  have c22 := c22.low q24 rfl
  have o7 : s24[0]? = some (.inr (7, [.ref 1, .ref 3, .ref 8, .ref 13, .ref 17, .ref 20, .ref 21, .ref 22, .null, .null])) := hw.at 0 rfl
  refine t_X7_init_93 o7 rfl (?_)
  have hw : wt 0 [.inr (7, [.ref 1, .ref 3, .ref 8, .ref 13, .ref 17, .ref 20, .ref 21, .ref 22, .ref 24, .null])] _ := hw.set 0 (.inr (7, [.ref 1, .ref 3, .ref 8, .ref 13, .ref 17, .ref 20, .ref 21, .ref 22, .ref 24, .null])) rfl
  have m25 : same 0 1 s24 _ := same.set 0 (.inr (7, [.ref 1, .ref 3, .ref 8, .ref 13, .ref 17, .ref 20, .ref 21, .ref 22, .ref 24, .null])) rfl
  have l25 : (s24.set (0 + 0) (.inr (7, [.ref 1, .ref 3, .ref 8, .ref 13, .ref 17, .ref 20, .ref 21, .ref 22, .ref 24, .null]))).length = 27 := by rw [List.length_set]; exact l24
  show gv_M ε (d + 3) m_X7_init _ Qs 96 _ _ (List.set s24 (0 + 0) (.inr (7, [.ref 1, .ref 3, .ref 8, .ref 13, .ref 17, .ref 20, .ref 21, .ref 22, .ref 24, .null]))) _ _
  generalize List.set s24 _ _ = s25 at hw m25 l25 ⊢
  have c1 := c1.keep m25 rfl
  have c3 := c3.keep m25 rfl
  have c8 := c8.keep m25 rfl
  have c13 := c13.keep m25 rfl
  have c17 := c17.keep m25 rfl
  have c20 := c20.keep m25 rfl
  have c21 := c21.keep m25 rfl
  have c22 := c22.keep m25 rfl
  have c24 := c24.keep m25 rfl
  refine t_X7_init_96 (t_X7_init_97 (by omega) (Nat.le_of_ble_eq_true rfl) (Nat.le_of_ble_eq_true rfl) (?_))
  rw [l25]
  have n26 : wt 27 [.inr (0, [.null, .null, .null, .null, .null, .null, .int 0, .int 0, .int 0])] _ := (wt.nil (b := 27) (sw := s25)).push (x := .inr (0, [.null, .null, .null, .null, .null, .null, .int 0, .int 0, .int 0])) l25
  have l26 : (s25 ++ [(.inr (0, [.null, .null, .null, .null, .null, .null, .int 0, .int 0, .int 0]) : va_E)]).length = 27 + 1 := by rw [List.length_append, l25]; rfl
  have q26 : low 27 s25 (s25 ++ [(.inr (0, [.null, .null, .null, .null, .null, .null, .int 0, .int 0, .int 0]) : va_E)]) := low.push (by omega)
  generalize s25 ++ _ = s26 at n26 l26 q26 ⊢
  have hw := hw.low q26 rfl
  have c1 := c1.low q26 rfl
  have c3 := c3.low q26 rfl
  have c8 := c8.low q26 rfl
  have c13 := c13.low q26 rfl
  have c17 := c17.low q26 rfl
  have c20 := c20.low q26 rfl
  have c21 := c21.low q26 rfl
  have c22 := c22.low q26 rfl
  have c24 := c24.low q26 rfl
  refine t_X7_init_100 rfl (t_X7_init_101 (Nat.le_of_ble_eq_true rfl) (Nat.le_of_ble_eq_true rfl) (Nat.le_of_ble_eq_true rfl) (in_X0 n26 l26 (by decide) (fun s27 l27 q27 c27 => ?_)))
  have hw := hw.low q27 rfl
  have c1 := c1.low q27 rfl
  have c3 := c3.low q27 rfl
  have c8 := c8.low q27 rfl
  have c13 := c13.low q27 rfl
  have c17 := c17.low q27 rfl
  have c20 := c20.low q27 rfl
  have c21 := c21.low q27 rfl
  have c22 := c22.low q27 rfl
  have c24 := c24.low q27 rfl
  have o7 : s27[0]? = some (.inr (7, [.ref 1, .ref 3, .ref 8, .ref 13, .ref 17, .ref 20, .ref 21, .ref 22, .ref 24, .null])) := hw.at 0 rfl
  refine t_X7_init_104 o7 rfl (?_)
  have hw : wt 0 [.inr (7, [.ref 1, .ref 3, .ref 8, .ref 13, .ref 17, .ref 20, .ref 21, .ref 22, .ref 24, .ref 27])] _ := hw.set 0 (.inr (7, [.ref 1, .ref 3, .ref 8, .ref 13, .ref 17, .ref 20, .ref 21, .ref 22, .ref 24, .ref 27])) rfl
  have m28 : same 0 1 s27 _ := same.set 0 (.inr (7, [.ref 1, .ref 3, .ref 8, .ref 13, .ref 17, .ref 20, .ref 21, .ref 22, .ref 24, .ref 27])) rfl
  have l28 : (s27.set (0 + 0) (.inr (7, [.ref 1, .ref 3, .ref 8, .ref 13, .ref 17, .ref 20, .ref 21, .ref 22, .ref 24, .ref 27]))).length = 34 := by rw [List.length_set]; exact l27
  show gv_M ε (d + 3) m_X7_init _ Qs 107 _ _ (List.set s27 (0 + 0) (.inr (7, [.ref 1, .ref 3, .ref 8, .ref 13, .ref 17, .ref 20, .ref 21, .ref 22, .ref 24, .ref 27]))) _ _
  generalize List.set s27 _ _ = s28 at hw m28 l28 ⊢
  have c1 := c1.keep m28 rfl
  have c3 := c3.keep m28 rfl
  have c8 := c8.keep m28 rfl
  have c13 := c13.keep m28 rfl
  have c17 := c17.keep m28 rfl
  have c20 := c20.keep m28 rfl
  have c21 := c21.keep m28 rfl
  have c22 := c22.keep m28 rfl
  have c24 := c24.keep m28 rfl
  have c27 := c27.keep m28 rfl
  refine t_X7_init_107 (t_X7_init_108 (?_))
  have o7 : s28[0]? = some (.inr (7, [.ref 1, .ref 3, .ref 8, .ref 13, .ref 17, .ref 20, .ref 21, .ref 22, .ref 24, .ref 27])) := hw.at 0 rfl
  refine t_X7_init_109 (t_X7_init_110 (t_X7_init_111N (by omega) (by omega) (fun h => absurd h (by omega)) (fun h => ?_)))
  refine t_X7_init_114 (t_X7_init_115 o7 rfl (t_X7_init_118 (?_)))
  refine t_X7_init_119 (by omega) (Nat.le_of_ble_eq_true rfl) (Nat.le_of_ble_eq_true rfl) (?_)
  rw [l28]
  have n29 : wt 34 [.inr (4, [.null, .null, .null, .null, .int 0])] _ := (wt.nil (b := 34) (sw := s28)).push (x := .inr (4, [.null, .null, .null, .null, .int 0])) l28
  have l29 : (s28 ++ [(.inr (4, [.null, .null, .null, .null, .int 0]) : va_E)]).length = 34 + 1 := by rw [List.length_append, l28]; rfl
  have q29 : low 34 s28 (s28 ++ [(.inr (4, [.null, .null, .null, .null, .int 0]) : va_E)]) := low.push (by omega)
  generalize s28 ++ _ = s29 at n29 l29 q29 ⊢
  have hw := hw.low q29 rfl
  have c1 := c1.low q29 rfl
  have c3 := c3.low q29 rfl
  have c8 := c8.low q29 rfl
  have c13 := c13.low q29 rfl
  have c17 := c17.low q29 rfl
  have c20 := c20.low q29 rfl
  have c21 := c21.low q29 rfl
  have c22 := c22.low q29 rfl
  have c24 := c24.low q29 rfl
  have c27 := c27.low q29 rfl
  refine t_X7_init_122 rfl (t_X7_init_123 (Nat.le_of_ble_eq_true rfl) (Nat.le_of_ble_eq_true rfl) (Nat.le_of_ble_eq_true rfl) (in_X4 n29 l29 (by decide) (fun tc34 s30 hRc34 hOc34 l30 q30 c34 => ?_)))
  have hw := hw.low q30 rfl
  have c1 := c1.low q30 rfl
  have c3 := c3.low q30 rfl
  have c8 := c8.low q30 rfl
  have c13 := c13.low q30 rfl
  have c17 := c17.low q30 rfl
  have c20 := c20.low q30 rfl
  have c21 := c21.low q30 rfl
  have c22 := c22.low q30 rfl
  have c24 := c24.low q30 rfl
  have c27 := c27.low q30 rfl
  have oi : s30[20]? = some (.inl (2, 2, .inr (.inr (.inr (.inr (fun _ => none)))))) := c20.at 0 rfl
  have ov : s30[34]? = some (.inr (4, [.ref (34 + 1), .ref (34 + 2), .ref (34 + 3), .ref (34 + 4), .int (nI tc34.2.2.2.2)])) := c34.at 0 rfl
  refine t_X7_init_126 oi (vp_in_nI (by decide) (by decide)) ov (t_X7_init_127N (t_X7_init_130 (?_)))
  rw [nI_clamp (by decide)]
  have c20 : wt 20 [.inl (2, 2, .inr (.inr (.inr (.inr (va_up (fun _ => none) 0 (some 34))))))] _ := c20.set 0 (.inl (2, 2, .inr (.inr (.inr (.inr (va_up (fun _ => none) 0 (some 34))))))) rfl
  have m31 : same 20 1 s30 _ := same.set 20 (.inl (2, 2, .inr (.inr (.inr (.inr (va_up (fun _ => none) 0 (some 34))))))) rfl
  have l31 : (s30.set (20 + 0) (.inl (2, 2, .inr (.inr (.inr (.inr (va_up (fun _ => none) 0 (some 34)))))))).length = 39 := by rw [List.length_set]; exact l30
  show gv_M ε (d + 3) m_X7_init _ Qs 109 _ _ (List.set s30 (20 + 0) (.inl (2, 2, .inr (.inr (.inr (.inr (va_up (fun _ => none) 0 (some 34)))))))) _ _
  generalize List.set s30 _ _ = s31 at c20 m31 l31 ⊢
  have hw := hw.keep m31 rfl
  have c1 := c1.keep m31 rfl
  have c3 := c3.keep m31 rfl
  have c8 := c8.keep m31 rfl
  have c13 := c13.keep m31 rfl
  have c17 := c17.keep m31 rfl
  have c21 := c21.keep m31 rfl
  have c22 := c22.keep m31 rfl
  have c24 := c24.keep m31 rfl
  have c27 := c27.keep m31 rfl
  have c34 := c34.keep m31 rfl
  have o7 : s31[0]? = some (.inr (7, [.ref 1, .ref 3, .ref 8, .ref 13, .ref 17, .ref 20, .ref 21, .ref 22, .ref 24, .ref 27])) := hw.at 0 rfl
  refine t_X7_init_109 (t_X7_init_110 (t_X7_init_111N (by omega) (by omega) (fun h => absurd h (by omega)) (fun h => ?_)))
  refine t_X7_init_114 (t_X7_init_115 o7 rfl (t_X7_init_118 (?_)))
  refine t_X7_init_119 (by omega) (Nat.le_of_ble_eq_true rfl) (Nat.le_of_ble_eq_true rfl) (?_)
  rw [l31]
  have n32 : wt 39 [.inr (4, [.null, .null, .null, .null, .int 0])] _ := (wt.nil (b := 39) (sw := s31)).push (x := .inr (4, [.null, .null, .null, .null, .int 0])) l31
  have l32 : (s31 ++ [(.inr (4, [.null, .null, .null, .null, .int 0]) : va_E)]).length = 39 + 1 := by rw [List.length_append, l31]; rfl
  have q32 : low 39 s31 (s31 ++ [(.inr (4, [.null, .null, .null, .null, .int 0]) : va_E)]) := low.push (by omega)
  generalize s31 ++ _ = s32 at n32 l32 q32 ⊢
  have hw := hw.low q32 rfl
  have c1 := c1.low q32 rfl
  have c3 := c3.low q32 rfl
  have c8 := c8.low q32 rfl
  have c13 := c13.low q32 rfl
  have c17 := c17.low q32 rfl
  have c20 := c20.low q32 rfl
  have c21 := c21.low q32 rfl
  have c22 := c22.low q32 rfl
  have c24 := c24.low q32 rfl
  have c27 := c27.low q32 rfl
  have c34 := c34.low q32 rfl
  refine t_X7_init_122 rfl (t_X7_init_123 (Nat.le_of_ble_eq_true rfl) (Nat.le_of_ble_eq_true rfl) (Nat.le_of_ble_eq_true rfl) (in_X4 n32 l32 (by decide) (fun tc39 s33 hRc39 hOc39 l33 q33 c39 => ?_)))
  have hw := hw.low q33 rfl
  have c1 := c1.low q33 rfl
  have c3 := c3.low q33 rfl
  have c8 := c8.low q33 rfl
  have c13 := c13.low q33 rfl
  have c17 := c17.low q33 rfl
  have c20 := c20.low q33 rfl
  have c21 := c21.low q33 rfl
  have c22 := c22.low q33 rfl
  have c24 := c24.low q33 rfl
  have c27 := c27.low q33 rfl
  have c34 := c34.low q33 rfl
  have oi : s33[20]? = some (.inl (2, 2, .inr (.inr (.inr (.inr (va_up (fun _ => none) 0 (some 34))))))) := c20.at 0 rfl
  have ov : s33[39]? = some (.inr (4, [.ref (39 + 1), .ref (39 + 2), .ref (39 + 3), .ref (39 + 4), .int (nI tc39.2.2.2.2)])) := c39.at 0 rfl
  refine t_X7_init_126 oi (vp_in_nI (by decide) (by decide)) ov (t_X7_init_127N (t_X7_init_130 (?_)))
  rw [nI_clamp (by decide)]
  have c20 : wt 20 [.inl (2, 2, .inr (.inr (.inr (.inr (va_up (va_up (fun _ => none) 0 (some 34)) 1 (some 39))))))] _ := c20.set 0 (.inl (2, 2, .inr (.inr (.inr (.inr (va_up (va_up (fun _ => none) 0 (some 34)) 1 (some 39))))))) rfl
  have m34 : same 20 1 s33 _ := same.set 20 (.inl (2, 2, .inr (.inr (.inr (.inr (va_up (va_up (fun _ => none) 0 (some 34)) 1 (some 39))))))) rfl
  have l34 : (s33.set (20 + 0) (.inl (2, 2, .inr (.inr (.inr (.inr (va_up (va_up (fun _ => none) 0 (some 34)) 1 (some 39)))))))).length = 44 := by rw [List.length_set]; exact l33
  show gv_M ε (d + 3) m_X7_init _ Qs 109 _ _ (List.set s33 (20 + 0) (.inl (2, 2, .inr (.inr (.inr (.inr (va_up (va_up (fun _ => none) 0 (some 34)) 1 (some 39)))))))) _ _
  generalize List.set s33 _ _ = s34 at c20 m34 l34 ⊢
  have hw := hw.keep m34 rfl
  have c1 := c1.keep m34 rfl
  have c3 := c3.keep m34 rfl
  have c8 := c8.keep m34 rfl
  have c13 := c13.keep m34 rfl
  have c17 := c17.keep m34 rfl
  have c21 := c21.keep m34 rfl
  have c22 := c22.keep m34 rfl
  have c24 := c24.keep m34 rfl
  have c27 := c27.keep m34 rfl
  have c34 := c34.keep m34 rfl
  have c39 := c39.keep m34 rfl
  refine t_X7_init_109 (t_X7_init_110 (t_X7_init_111N (by omega) (by omega) (fun h => ?_) (fun h => absurd h (by omega))))
  refine t_X7_init_133 (Nat.le_of_ble_eq_true rfl) ?_
  have cim : wt 20 (imF (va_up (va_up (fun _ => none) 0 (some 34)) 1 (some 39)) (fun _ => 0)) s34 := by
    intro k e he
    match k, he with
    | 0, he => exact c20 0 e he
    | 1, he => exact c21 0 e he
    | k + 2, he => cases he
  have cst : wt 22 (stF (fun _ => 0)) s34 := c22
  have cdl : wt 24 (dlF (fun _ => 0) (fun _ => 0)) s34 := c24
  have cco : wt 27 (coF (fun _ _ => 0, fun _ => 0)) s34 := c27
  exact h1 tc3 tc8 tc34 tc39 _ hRc3 hOc3 l34 ⟨hw, c1, c3, c8, c13, c17, ⟨_, rfl, rfl, cim⟩, ⟨_, _, _, _, cst, cdl, cco⟩, c34, c39⟩
end IN7
