/-! constructors (printed by gen_init.py) -/
def low (b : Nat) (sw sw' : List va_E) : Prop := ∀ q : Nat, q < b → sw'[q]? = sw[q]?
theorem low.rf {b : Nat} {sw : List va_E} : low b sw sw := fun _ _ => rfl
theorem low.tr {b : Nat} {s1 s2 s3 : List va_E} (h1 : low b s1 s2) (h2 : low b s2 s3) : low b s1 s3 := fun q hq => (h2 q hq).trans (h1 q hq)
theorem low.push {b : Nat} {sw : List va_E} {x : va_E} (h : b ≤ sw.length) : low b sw (sw ++ [x]) := fun q hq => List.getElem?_append_left (by omega)
theorem low.set {b : Nat} {sw : List va_E} (k : Nat) (x : va_E) : low b sw (sw.set (b + k) x) := fun q hq => List.getElem?_set_ne (by omega)
theorem low.same {b n : Nat} {sw sw' : List va_E} (h : same b n sw sw') : low b sw sw' := fun q hq => h.2 q (Or.inl hq)
theorem low.mono {a b : Nat} {sw sw' : List va_E} (h : low b sw sw') (hab : a ≤ b) : low a sw sw' := fun q hq => h q (by omega)
theorem wt.low {b b' : Nat} {l sw sw' : List va_E} (h : wt b' l sw) (hs : low b sw sw') (hd : Nat.ble (b' + l.length) b = true) : wt b' l sw' := by
  rw [Nat.ble_eq] at hd
  intro k e he
  have hk : k < l.length := (List.getElem?_eq_some_iff.mp he).1
  rw [hs _ (by omega)]
  exact h k e he
theorem wt.push {b : Nat} {l sw : List va_E} {x : va_E} (h : wt b l sw) (hl : sw.length = b + l.length) : wt b (l ++ [x]) (sw ++ [x]) := by
  intro k e he
  by_cases q : k < l.length
  · rw [List.getElem?_append_left q] at he
    rw [List.getElem?_append_left (by omega)]
    exact h k e he
  · rw [List.getElem?_append_right (by omega)] at he
    rw [List.getElem?_append_right (by omega), hl, show b + k - (b + l.length) = k - l.length by omega]
    exact he
section IN
variable {ε : gv_E} {d : Nat} {Qs : Option Value → List va_E → Prop} {sw : List va_E} {b : Nat}
theorem in_X3 (hw : wt b [.inr (3, [.null, .int 0, .int 0, .int 0, .int 0, .int 0])] sw) (hl : sw.length = b + 1) (hb : b < 900) (h1 : ∀ sw', sw'.length = b + 2 → low b sw sw' → wt b [.inr (3, [.ref (b + 1), .int 0, .int 0, .int 0, .int 0, .int 0]), .inl (0, 120, .inl (fun _ => 0))] sw' → Qs none sw') : gv_S ε (d + 1) m_X3_init [.ref b] sw Qs := by
  refine gv_S.go rfl ?_
  refine t_X3_init_0 (t_X3_init_1 gv_rmok (Nat.le_of_ble_eq_true rfl) (t_X3_init_4 (t_X3_init_5 (t_X3_init_7 (N := 120) (by decide) (by decide) (by decide) (by omega) (Nat.le_of_ble_eq_true rfl) (Nat.le_of_ble_eq_true rfl) (?_)))))
  rw [hl]
  have w0a : wt b [.inr (3, [.null, .int 0, .int 0, .int 0, .int 0, .int 0]), .inl (0, 120, .inl (fun _ => 0))] _ := hw.push (x := .inl (0, 120, .inl (fun _ => 0))) hl
  have l0a : (sw ++ [(.inl (0, 120, .inl (fun _ => 0)) : va_E)]).length = b + 2 := by rw [List.length_append, hl]; rfl
  have q0a : low b sw (sw ++ [(.inl (0, 120, .inl (fun _ => 0)) : va_E)]) := (low.rf : low b sw sw).tr (low.push (by omega))
  generalize sw ++ _ = s0a at w0a l0a q0a ⊢
  have o0 : s0a[b]? = some (.inr (3, [.null, .int 0, .int 0, .int 0, .int 0, .int 0])) := w0a.at 0 rfl
  refine t_X3_init_9 o0 rfl (?_)
  have w0b : wt b [.inr (3, [.ref (b + 1), .int 0, .int 0, .int 0, .int 0, .int 0]), .inl (0, 120, .inl (fun _ => 0))] _ := w0a.set 0 (.inr (3, [.ref (b + 1), .int 0, .int 0, .int 0, .int 0, .int 0])) rfl
  have l0b : (s0a.set (b + 0) (.inr (3, [.ref (b + 1), .int 0, .int 0, .int 0, .int 0, .int 0]))).length = b + 2 := by rw [List.length_set]; exact l0a
  have q0b : low b sw (s0a.set (b + 0) (.inr (3, [.ref (b + 1), .int 0, .int 0, .int 0, .int 0, .int 0]))) := q0a.tr (low.set 0 _)
  show gv_M ε (d + 1) m_X3_init _ Qs 12 _ _ (List.set s0a (b + 0) (.inr (3, [.ref (b + 1), .int 0, .int 0, .int 0, .int 0, .int 0]))) _ _
  generalize List.set s0a _ _ = s0b at w0b l0b q0b ⊢
  refine t_X3_init_12 (Nat.le_of_ble_eq_true rfl) ?_
  exact h1 _ l0b q0b w0b
theorem in_X6 (hw : wt b [.inr (6, [.null])] sw) (hl : sw.length = b + 1) (hb : b < 900) (h1 : ∀ sw', sw'.length = b + 2 → low b sw sw' → wt b [.inr (6, [.ref (b + 1)]), .inl (0, 24, .inl (fun _ => 0))] sw' → Qs none sw') : gv_S ε (d + 1) m_X6_init [.ref b] sw Qs := by
  refine gv_S.go rfl ?_
  refine t_X6_init_0 (t_X6_init_1 gv_rmok (Nat.le_of_ble_eq_true rfl) (t_X6_init_4 (t_X6_init_5 (t_X6_init_7 (N := 24) (by decide) (by decide) (by decide) (by omega) (Nat.le_of_ble_eq_true rfl) (Nat.le_of_ble_eq_true rfl) (?_)))))
  rw [hl]
  have w0a : wt b [.inr (6, [.null]), .inl (0, 24, .inl (fun _ => 0))] _ := hw.push (x := .inl (0, 24, .inl (fun _ => 0))) hl
  have l0a : (sw ++ [(.inl (0, 24, .inl (fun _ => 0)) : va_E)]).length = b + 2 := by rw [List.length_append, hl]; rfl
  have q0a : low b sw (sw ++ [(.inl (0, 24, .inl (fun _ => 0)) : va_E)]) := (low.rf : low b sw sw).tr (low.push (by omega))
  generalize sw ++ _ = s0a at w0a l0a q0a ⊢
  have o0 : s0a[b]? = some (.inr (6, [.null])) := w0a.at 0 rfl
  refine t_X6_init_9 o0 rfl (?_)
  have w0b : wt b [.inr (6, [.ref (b + 1)]), .inl (0, 24, .inl (fun _ => 0))] _ := w0a.set 0 (.inr (6, [.ref (b + 1)])) rfl
  have l0b : (s0a.set (b + 0) (.inr (6, [.ref (b + 1)]))).length = b + 2 := by rw [List.length_set]; exact l0a
  have q0b : low b sw (s0a.set (b + 0) (.inr (6, [.ref (b + 1)]))) := q0a.tr (low.set 0 _)
  show gv_M ε (d + 1) m_X6_init _ Qs 12 _ _ (List.set s0a (b + 0) (.inr (6, [.ref (b + 1)]))) _ _
  generalize List.set s0a _ _ = s0b at w0b l0b q0b ⊢
  refine t_X6_init_12 (Nat.le_of_ble_eq_true rfl) ?_
  exact h1 _ l0b q0b w0b
theorem in_X1 (hw : wt b [.inr (1, [.null, .null])] sw) (hl : sw.length = b + 1) (hb : b < 900) (h1 : ∀ sw', sw'.length = b + 3 → low b sw sw' → wt b [.inr (1, [.ref (b + 1), .ref (b + 2)]), .inl (0, 24, .inl (fun _ => 0)), .inl (0, 10, .inl (fun _ => 0))] sw' → Qs none sw') : gv_S ε (d + 1) m_X1_init [.ref b] sw Qs := by
  refine gv_S.go rfl ?_
  refine t_X1_init_0 (t_X1_init_1 gv_rmok (Nat.le_of_ble_eq_true rfl) (t_X1_init_4 (t_X1_init_5 (t_X1_init_7 (N := 24) (by decide) (by decide) (by decide) (by omega) (Nat.le_of_ble_eq_true rfl) (Nat.le_of_ble_eq_true rfl) (?_)))))
  rw [hl]
  have w0a : wt b [.inr (1, [.null, .null]), .inl (0, 24, .inl (fun _ => 0))] _ := hw.push (x := .inl (0, 24, .inl (fun _ => 0))) hl
  have l0a : (sw ++ [(.inl (0, 24, .inl (fun _ => 0)) : va_E)]).length = b + 2 := by rw [List.length_append, hl]; rfl
  have q0a : low b sw (sw ++ [(.inl (0, 24, .inl (fun _ => 0)) : va_E)]) := (low.rf : low b sw sw).tr (low.push (by omega))
  generalize sw ++ _ = s0a at w0a l0a q0a ⊢
  have o0 : s0a[b]? = some (.inr (1, [.null, .null])) := w0a.at 0 rfl
  refine t_X1_init_9 o0 rfl (?_)
  have w0b : wt b [.inr (1, [.ref (b + 1), .null]), .inl (0, 24, .inl (fun _ => 0))] _ := w0a.set 0 (.inr (1, [.ref (b + 1), .null])) rfl
  have l0b : (s0a.set (b + 0) (.inr (1, [.ref (b + 1), .null]))).length = b + 2 := by rw [List.length_set]; exact l0a
  have q0b : low b sw (s0a.set (b + 0) (.inr (1, [.ref (b + 1), .null]))) := q0a.tr (low.set 0 _)
  show gv_M ε (d + 1) m_X1_init _ Qs 12 _ _ (List.set s0a (b + 0) (.inr (1, [.ref (b + 1), .null]))) _ _
  generalize List.set s0a _ _ = s0b at w0b l0b q0b ⊢
  refine t_X1_init_12 (t_X1_init_13 (t_X1_init_15 (N := 10) (by decide) (by decide) (by decide) (by omega) (Nat.le_of_ble_eq_true rfl) (Nat.le_of_ble_eq_true rfl) (?_)))
  rw [l0b]
  have w1a : wt b [.inr (1, [.ref (b + 1), .null]), .inl (0, 24, .inl (fun _ => 0)), .inl (0, 10, .inl (fun _ => 0))] _ := w0b.push (x := .inl (0, 10, .inl (fun _ => 0))) l0b
  have l1a : (s0b ++ [(.inl (0, 10, .inl (fun _ => 0)) : va_E)]).length = b + 3 := by rw [List.length_append, l0b]; rfl
  have q1a : low b sw (s0b ++ [(.inl (0, 10, .inl (fun _ => 0)) : va_E)]) := q0b.tr (low.push (by omega))
  generalize s0b ++ _ = s1a at w1a l1a q1a ⊢
  have o1 : s1a[b]? = some (.inr (1, [.ref (b + 1), .null])) := w1a.at 0 rfl
  refine t_X1_init_17 o1 rfl (?_)
  have w1b : wt b [.inr (1, [.ref (b + 1), .ref (b + 2)]), .inl (0, 24, .inl (fun _ => 0)), .inl (0, 10, .inl (fun _ => 0))] _ := w1a.set 0 (.inr (1, [.ref (b + 1), .ref (b + 2)])) rfl
  have l1b : (s1a.set (b + 0) (.inr (1, [.ref (b + 1), .ref (b + 2)]))).length = b + 3 := by rw [List.length_set]; exact l1a
  have q1b : low b sw (s1a.set (b + 0) (.inr (1, [.ref (b + 1), .ref (b + 2)]))) := q1a.tr (low.set 0 _)
  show gv_M ε (d + 1) m_X1_init _ Qs 20 _ _ (List.set s1a (b + 0) (.inr (1, [.ref (b + 1), .ref (b + 2)]))) _ _
  generalize List.set s1a _ _ = s1b at w1b l1b q1b ⊢
  refine t_X1_init_20 (Nat.le_of_ble_eq_true rfl) ?_
  exact h1 _ l1b q1b w1b
theorem in_X2 (hw : wt b [.inr (2, [.null, .null, .null, .int 0])] sw) (hl : sw.length = b + 1) (hb : b < 900) (h1 : ∀ sw', sw'.length = b + 4 → low b sw sw' → wt b [.inr (2, [.ref (b + 1), .ref (b + 2), .ref (b + 3), .int 0]), .inl (0, 10, .inl (fun _ => 0)), .inl (0, 10, .inl (fun _ => 0)), .inl (0, 10, .inl (fun _ => 0))] sw' → Qs none sw') : gv_S ε (d + 1) m_X2_init [.ref b] sw Qs := by
  refine gv_S.go rfl ?_
  refine t_X2_init_0 (t_X2_init_1 gv_rmok (Nat.le_of_ble_eq_true rfl) (t_X2_init_4 (t_X2_init_5 (t_X2_init_7 (N := 10) (by decide) (by decide) (by decide) (by omega) (Nat.le_of_ble_eq_true rfl) (Nat.le_of_ble_eq_true rfl) (?_)))))
  rw [hl]
  have w0a : wt b [.inr (2, [.null, .null, .null, .int 0]), .inl (0, 10, .inl (fun _ => 0))] _ := hw.push (x := .inl (0, 10, .inl (fun _ => 0))) hl
  have l0a : (sw ++ [(.inl (0, 10, .inl (fun _ => 0)) : va_E)]).length = b + 2 := by rw [List.length_append, hl]; rfl
  have q0a : low b sw (sw ++ [(.inl (0, 10, .inl (fun _ => 0)) : va_E)]) := (low.rf : low b sw sw).tr (low.push (by omega))
  generalize sw ++ _ = s0a at w0a l0a q0a ⊢
  have o0 : s0a[b]? = some (.inr (2, [.null, .null, .null, .int 0])) := w0a.at 0 rfl
  refine t_X2_init_9 o0 rfl (?_)
  have w0b : wt b [.inr (2, [.ref (b + 1), .null, .null, .int 0]), .inl (0, 10, .inl (fun _ => 0))] _ := w0a.set 0 (.inr (2, [.ref (b + 1), .null, .null, .int 0])) rfl
  have l0b : (s0a.set (b + 0) (.inr (2, [.ref (b + 1), .null, .null, .int 0]))).length = b + 2 := by rw [List.length_set]; exact l0a
  have q0b : low b sw (s0a.set (b + 0) (.inr (2, [.ref (b + 1), .null, .null, .int 0]))) := q0a.tr (low.set 0 _)
  show gv_M ε (d + 1) m_X2_init _ Qs 12 _ _ (List.set s0a (b + 0) (.inr (2, [.ref (b + 1), .null, .null, .int 0]))) _ _
  generalize List.set s0a _ _ = s0b at w0b l0b q0b ⊢
  refine t_X2_init_12 (t_X2_init_13 (t_X2_init_15 (N := 10) (by decide) (by decide) (by decide) (by omega) (Nat.le_of_ble_eq_true rfl) (Nat.le_of_ble_eq_true rfl) (?_)))
  rw [l0b]
  have w1a : wt b [.inr (2, [.ref (b + 1), .null, .null, .int 0]), .inl (0, 10, .inl (fun _ => 0)), .inl (0, 10, .inl (fun _ => 0))] _ := w0b.push (x := .inl (0, 10, .inl (fun _ => 0))) l0b
  have l1a : (s0b ++ [(.inl (0, 10, .inl (fun _ => 0)) : va_E)]).length = b + 3 := by rw [List.length_append, l0b]; rfl
  have q1a : low b sw (s0b ++ [(.inl (0, 10, .inl (fun _ => 0)) : va_E)]) := q0b.tr (low.push (by omega))
  generalize s0b ++ _ = s1a at w1a l1a q1a ⊢
  have o1 : s1a[b]? = some (.inr (2, [.ref (b + 1), .null, .null, .int 0])) := w1a.at 0 rfl
  refine t_X2_init_17 o1 rfl (?_)
  have w1b : wt b [.inr (2, [.ref (b + 1), .ref (b + 2), .null, .int 0]), .inl (0, 10, .inl (fun _ => 0)), .inl (0, 10, .inl (fun _ => 0))] _ := w1a.set 0 (.inr (2, [.ref (b + 1), .ref (b + 2), .null, .int 0])) rfl
  have l1b : (s1a.set (b + 0) (.inr (2, [.ref (b + 1), .ref (b + 2), .null, .int 0]))).length = b + 3 := by rw [List.length_set]; exact l1a
  have q1b : low b sw (s1a.set (b + 0) (.inr (2, [.ref (b + 1), .ref (b + 2), .null, .int 0]))) := q1a.tr (low.set 0 _)
  show gv_M ε (d + 1) m_X2_init _ Qs 20 _ _ (List.set s1a (b + 0) (.inr (2, [.ref (b + 1), .ref (b + 2), .null, .int 0]))) _ _
  generalize List.set s1a _ _ = s1b at w1b l1b q1b ⊢
  refine t_X2_init_20 (t_X2_init_21 (t_X2_init_23 (N := 10) (by decide) (by decide) (by decide) (by omega) (Nat.le_of_ble_eq_true rfl) (Nat.le_of_ble_eq_true rfl) (?_)))
  rw [l1b]
  have w2a : wt b [.inr (2, [.ref (b + 1), .ref (b + 2), .null, .int 0]), .inl (0, 10, .inl (fun _ => 0)), .inl (0, 10, .inl (fun _ => 0)), .inl (0, 10, .inl (fun _ => 0))] _ := w1b.push (x := .inl (0, 10, .inl (fun _ => 0))) l1b
  have l2a : (s1b ++ [(.inl (0, 10, .inl (fun _ => 0)) : va_E)]).length = b + 4 := by rw [List.length_append, l1b]; rfl
  have q2a : low b sw (s1b ++ [(.inl (0, 10, .inl (fun _ => 0)) : va_E)]) := q1b.tr (low.push (by omega))
  generalize s1b ++ _ = s2a at w2a l2a q2a ⊢
  have o2 : s2a[b]? = some (.inr (2, [.ref (b + 1), .ref (b + 2), .null, .int 0])) := w2a.at 0 rfl
  refine t_X2_init_25 o2 rfl (?_)
  have w2b : wt b [.inr (2, [.ref (b + 1), .ref (b + 2), .ref (b + 3), .int 0]), .inl (0, 10, .inl (fun _ => 0)), .inl (0, 10, .inl (fun _ => 0)), .inl (0, 10, .inl (fun _ => 0))] _ := w2a.set 0 (.inr (2, [.ref (b + 1), .ref (b + 2), .ref (b + 3), .int 0])) rfl
  have l2b : (s2a.set (b + 0) (.inr (2, [.ref (b + 1), .ref (b + 2), .ref (b + 3), .int 0]))).length = b + 4 := by rw [List.length_set]; exact l2a
  have q2b : low b sw (s2a.set (b + 0) (.inr (2, [.ref (b + 1), .ref (b + 2), .ref (b + 3), .int 0]))) := q2a.tr (low.set 0 _)
  show gv_M ε (d + 1) m_X2_init _ Qs 28 _ _ (List.set s2a (b + 0) (.inr (2, [.ref (b + 1), .ref (b + 2), .ref (b + 3), .int 0]))) _ _
  generalize List.set s2a _ _ = s2b at w2b l2b q2b ⊢
  refine t_X2_init_28 (Nat.le_of_ble_eq_true rfl) ?_
  exact h1 _ l2b q2b w2b
theorem in_X5 (hw : wt b [.inr (5, [.null, .null, .int 0])] sw) (hl : sw.length = b + 1) (hb : b < 900) (h1 : ∀ sw', sw'.length = b + 3 → low b sw sw' → wt b [.inr (5, [.ref (b + 1), .ref (b + 2), .int 0]), .inl (0, 6, .inl (fun _ => 0)), .inl (0, 6, .inl (fun _ => 0))] sw' → Qs none sw') : gv_S ε (d + 1) m_X5_init [.ref b] sw Qs := by
  refine gv_S.go rfl ?_
  refine t_X5_init_0 (t_X5_init_1 gv_rmok (Nat.le_of_ble_eq_true rfl) (t_X5_init_4 (t_X5_init_5 (t_X5_init_7 (N := 6) (by decide) (by decide) (by decide) (by omega) (Nat.le_of_ble_eq_true rfl) (Nat.le_of_ble_eq_true rfl) (?_)))))
  rw [hl]
  have w0a : wt b [.inr (5, [.null, .null, .int 0]), .inl (0, 6, .inl (fun _ => 0))] _ := hw.push (x := .inl (0, 6, .inl (fun _ => 0))) hl
  have l0a : (sw ++ [(.inl (0, 6, .inl (fun _ => 0)) : va_E)]).length = b + 2 := by rw [List.length_append, hl]; rfl
  have q0a : low b sw (sw ++ [(.inl (0, 6, .inl (fun _ => 0)) : va_E)]) := (low.rf : low b sw sw).tr (low.push (by omega))
  generalize sw ++ _ = s0a at w0a l0a q0a ⊢
  have o0 : s0a[b]? = some (.inr (5, [.null, .null, .int 0])) := w0a.at 0 rfl
  refine t_X5_init_9 o0 rfl (?_)
  have w0b : wt b [.inr (5, [.ref (b + 1), .null, .int 0]), .inl (0, 6, .inl (fun _ => 0))] _ := w0a.set 0 (.inr (5, [.ref (b + 1), .null, .int 0])) rfl
  have l0b : (s0a.set (b + 0) (.inr (5, [.ref (b + 1), .null, .int 0]))).length = b + 2 := by rw [List.length_set]; exact l0a
  have q0b : low b sw (s0a.set (b + 0) (.inr (5, [.ref (b + 1), .null, .int 0]))) := q0a.tr (low.set 0 _)
  show gv_M ε (d + 1) m_X5_init _ Qs 12 _ _ (List.set s0a (b + 0) (.inr (5, [.ref (b + 1), .null, .int 0]))) _ _
  generalize List.set s0a _ _ = s0b at w0b l0b q0b ⊢
  refine t_X5_init_12 (t_X5_init_13 (t_X5_init_15 (N := 6) (by decide) (by decide) (by decide) (by omega) (Nat.le_of_ble_eq_true rfl) (Nat.le_of_ble_eq_true rfl) (?_)))
  rw [l0b]
  have w1a : wt b [.inr (5, [.ref (b + 1), .null, .int 0]), .inl (0, 6, .inl (fun _ => 0)), .inl (0, 6, .inl (fun _ => 0))] _ := w0b.push (x := .inl (0, 6, .inl (fun _ => 0))) l0b
  have l1a : (s0b ++ [(.inl (0, 6, .inl (fun _ => 0)) : va_E)]).length = b + 3 := by rw [List.length_append, l0b]; rfl
  have q1a : low b sw (s0b ++ [(.inl (0, 6, .inl (fun _ => 0)) : va_E)]) := q0b.tr (low.push (by omega))
  generalize s0b ++ _ = s1a at w1a l1a q1a ⊢
  have o1 : s1a[b]? = some (.inr (5, [.ref (b + 1), .null, .int 0])) := w1a.at 0 rfl
  refine t_X5_init_17 o1 rfl (?_)
  have w1b : wt b [.inr (5, [.ref (b + 1), .ref (b + 2), .int 0]), .inl (0, 6, .inl (fun _ => 0)), .inl (0, 6, .inl (fun _ => 0))] _ := w1a.set 0 (.inr (5, [.ref (b + 1), .ref (b + 2), .int 0])) rfl
  have l1b : (s1a.set (b + 0) (.inr (5, [.ref (b + 1), .ref (b + 2), .int 0]))).length = b + 3 := by rw [List.length_set]; exact l1a
  have q1b : low b sw (s1a.set (b + 0) (.inr (5, [.ref (b + 1), .ref (b + 2), .int 0]))) := q1a.tr (low.set 0 _)
  show gv_M ε (d + 1) m_X5_init _ Qs 20 _ _ (List.set s1a (b + 0) (.inr (5, [.ref (b + 1), .ref (b + 2), .int 0]))) _ _
  generalize List.set s1a _ _ = s1b at w1b l1b q1b ⊢
  refine t_X5_init_20 (Nat.le_of_ble_eq_true rfl) ?_
  exact h1 _ l1b q1b w1b
theorem in_X0 (hw : wt b [.inr (0, [.null, .null, .null, .null, .null, .null, .int 0, .int 0, .int 0])] sw) (hl : sw.length = b + 1) (hb : b < 900) (h1 : ∀ sw', sw'.length = b + 7 → low b sw sw' → wt b [.inr (0, [.ref (b + 1), .ref (b + 2), .ref (b + 3), .ref (b + 4), .ref (b + 5), .ref (b + 6), .int 0, .int 0, .int 0]), .inl (0, 4, .inl (fun _ => 0)), .inl (0, 40, .inl (fun _ => 0)), .inl (0, 40, .inl (fun _ => 0)), .inl (0, 40, .inl (fun _ => 0)), .inl (0, 40, .inl (fun _ => 0)), .inl (0, 40, .inl (fun _ => 0))] sw' → Qs none sw') : gv_S ε (d + 1) m_X0_init [.ref b] sw Qs := by
  refine gv_S.go rfl ?_
  refine t_X0_init_0 (t_X0_init_1 gv_rmok (Nat.le_of_ble_eq_true rfl) (t_X0_init_4 (t_X0_init_5 (t_X0_init_6 (N := 4) (by decide) (by decide) (by decide) (by omega) (Nat.le_of_ble_eq_true rfl) (Nat.le_of_ble_eq_true rfl) (?_)))))
  rw [hl]
  have w0a : wt b [.inr (0, [.null, .null, .null, .null, .null, .null, .int 0, .int 0, .int 0]), .inl (0, 4, .inl (fun _ => 0))] _ := hw.push (x := .inl (0, 4, .inl (fun _ => 0))) hl
  have l0a : (sw ++ [(.inl (0, 4, .inl (fun _ => 0)) : va_E)]).length = b + 2 := by rw [List.length_append, hl]; rfl
  have q0a : low b sw (sw ++ [(.inl (0, 4, .inl (fun _ => 0)) : va_E)]) := (low.rf : low b sw sw).tr (low.push (by omega))
  generalize sw ++ _ = s0a at w0a l0a q0a ⊢
  have o0 : s0a[b]? = some (.inr (0, [.null, .null, .null, .null, .null, .null, .int 0, .int 0, .int 0])) := w0a.at 0 rfl
  refine t_X0_init_8 o0 rfl (?_)
  have w0b : wt b [.inr (0, [.ref (b + 1), .null, .null, .null, .null, .null, .int 0, .int 0, .int 0]), .inl (0, 4, .inl (fun _ => 0))] _ := w0a.set 0 (.inr (0, [.ref (b + 1), .null, .null, .null, .null, .null, .int 0, .int 0, .int 0])) rfl
  have l0b : (s0a.set (b + 0) (.inr (0, [.ref (b + 1), .null, .null, .null, .null, .null, .int 0, .int 0, .int 0]))).length = b + 2 := by rw [List.length_set]; exact l0a
  have q0b : low b sw (s0a.set (b + 0) (.inr (0, [.ref (b + 1), .null, .null, .null, .null, .null, .int 0, .int 0, .int 0]))) := q0a.tr (low.set 0 _)
  show gv_M ε (d + 1) m_X0_init _ Qs 11 _ _ (List.set s0a (b + 0) (.inr (0, [.ref (b + 1), .null, .null, .null, .null, .null, .int 0, .int 0, .int 0]))) _ _
  generalize List.set s0a _ _ = s0b at w0b l0b q0b ⊢
  refine t_X0_init_11 (t_X0_init_12 (t_X0_init_14 (N := 40) (by decide) (by decide) (by decide) (by omega) (Nat.le_of_ble_eq_true rfl) (Nat.le_of_ble_eq_true rfl) (?_)))
  rw [l0b]
  have w1a : wt b [.inr (0, [.ref (b + 1), .null, .null, .null, .null, .null, .int 0, .int 0, .int 0]), .inl (0, 4, .inl (fun _ => 0)), .inl (0, 40, .inl (fun _ => 0))] _ := w0b.push (x := .inl (0, 40, .inl (fun _ => 0))) l0b
  have l1a : (s0b ++ [(.inl (0, 40, .inl (fun _ => 0)) : va_E)]).length = b + 3 := by rw [List.length_append, l0b]; rfl
  have q1a : low b sw (s0b ++ [(.inl (0, 40, .inl (fun _ => 0)) : va_E)]) := q0b.tr (low.push (by omega))
  generalize s0b ++ _ = s1a at w1a l1a q1a ⊢
  have o1 : s1a[b]? = some (.inr (0, [.ref (b + 1), .null, .null, .null, .null, .null, .int 0, .int 0, .int 0])) := w1a.at 0 rfl
  refine t_X0_init_16 o1 rfl (?_)
  have w1b : wt b [.inr (0, [.ref (b + 1), .ref (b + 2), .null, .null, .null, .null, .int 0, .int 0, .int 0]), .inl (0, 4, .inl (fun _ => 0)), .inl (0, 40, .inl (fun _ => 0))] _ := w1a.set 0 (.inr (0, [.ref (b + 1), .ref (b + 2), .null, .null, .null, .null, .int 0, .int 0, .int 0])) rfl
  have l1b : (s1a.set (b + 0) (.inr (0, [.ref (b + 1), .ref (b + 2), .null, .null, .null, .null, .int 0, .int 0, .int 0]))).length = b + 3 := by rw [List.length_set]; exact l1a
  have q1b : low b sw (s1a.set (b + 0) (.inr (0, [.ref (b + 1), .ref (b + 2), .null, .null, .null, .null, .int 0, .int 0, .int 0]))) := q1a.tr (low.set 0 _)
  show gv_M ε (d + 1) m_X0_init _ Qs 19 _ _ (List.set s1a (b + 0) (.inr (0, [.ref (b + 1), .ref (b + 2), .null, .null, .null, .null, .int 0, .int 0, .int 0]))) _ _
  generalize List.set s1a _ _ = s1b at w1b l1b q1b ⊢
  refine t_X0_init_19 (t_X0_init_20 (t_X0_init_22 (N := 40) (by decide) (by decide) (by decide) (by omega) (Nat.le_of_ble_eq_true rfl) (Nat.le_of_ble_eq_true rfl) (?_)))
  rw [l1b]
  have w2a : wt b [.inr (0, [.ref (b + 1), .ref (b + 2), .null, .null, .null, .null, .int 0, .int 0, .int 0]), .inl (0, 4, .inl (fun _ => 0)), .inl (0, 40, .inl (fun _ => 0)), .inl (0, 40, .inl (fun _ => 0))] _ := w1b.push (x := .inl (0, 40, .inl (fun _ => 0))) l1b
  have l2a : (s1b ++ [(.inl (0, 40, .inl (fun _ => 0)) : va_E)]).length = b + 4 := by rw [List.length_append, l1b]; rfl
  have q2a : low b sw (s1b ++ [(.inl (0, 40, .inl (fun _ => 0)) : va_E)]) := q1b.tr (low.push (by omega))
  generalize s1b ++ _ = s2a at w2a l2a q2a ⊢
  have o2 : s2a[b]? = some (.inr (0, [.ref (b + 1), .ref (b + 2), .null, .null, .null, .null, .int 0, .int 0, .int 0])) := w2a.at 0 rfl
  refine t_X0_init_24 o2 rfl (?_)
  have w2b : wt b [.inr (0, [.ref (b + 1), .ref (b + 2), .ref (b + 3), .null, .null, .null, .int 0, .int 0, .int 0]), .inl (0, 4, .inl (fun _ => 0)), .inl (0, 40, .inl (fun _ => 0)), .inl (0, 40, .inl (fun _ => 0))] _ := w2a.set 0 (.inr (0, [.ref (b + 1), .ref (b + 2), .ref (b + 3), .null, .null, .null, .int 0, .int 0, .int 0])) rfl
  have l2b : (s2a.set (b + 0) (.inr (0, [.ref (b + 1), .ref (b + 2), .ref (b + 3), .null, .null, .null, .int 0, .int 0, .int 0]))).length = b + 4 := by rw [List.length_set]; exact l2a
  have q2b : low b sw (s2a.set (b + 0) (.inr (0, [.ref (b + 1), .ref (b + 2), .ref (b + 3), .null, .null, .null, .int 0, .int 0, .int 0]))) := q2a.tr (low.set 0 _)
  show gv_M ε (d + 1) m_X0_init _ Qs 27 _ _ (List.set s2a (b + 0) (.inr (0, [.ref (b + 1), .ref (b + 2), .ref (b + 3), .null, .null, .null, .int 0, .int 0, .int 0]))) _ _
  generalize List.set s2a _ _ = s2b at w2b l2b q2b ⊢
  refine t_X0_init_27 (t_X0_init_28 (t_X0_init_30 (N := 40) (by decide) (by decide) (by decide) (by omega) (Nat.le_of_ble_eq_true rfl) (Nat.le_of_ble_eq_true rfl) (?_)))
  rw [l2b]
  have w3a : wt b [.inr (0, [.ref (b + 1), .ref (b + 2), .ref (b + 3), .null, .null, .null, .int 0, .int 0, .int 0]), .inl (0, 4, .inl (fun _ => 0)), .inl (0, 40, .inl (fun _ => 0)), .inl (0, 40, .inl (fun _ => 0)), .inl (0, 40, .inl (fun _ => 0))] _ := w2b.push (x := .inl (0, 40, .inl (fun _ => 0))) l2b
  have l3a : (s2b ++ [(.inl (0, 40, .inl (fun _ => 0)) : va_E)]).length = b + 5 := by rw [List.length_append, l2b]; rfl
  have q3a : low b sw (s2b ++ [(.inl (0, 40, .inl (fun _ => 0)) : va_E)]) := q2b.tr (low.push (by omega))
  generalize s2b ++ _ = s3a at w3a l3a q3a ⊢
  have o3 : s3a[b]? = some (.inr (0, [.ref (b + 1), .ref (b + 2), .ref (b + 3), .null, .null, .null, .int 0, .int 0, .int 0])) := w3a.at 0 rfl
  refine t_X0_init_32 o3 rfl (?_)
  have w3b : wt b [.inr (0, [.ref (b + 1), .ref (b + 2), .ref (b + 3), .ref (b + 4), .null, .null, .int 0, .int 0, .int 0]), .inl (0, 4, .inl (fun _ => 0)), .inl (0, 40, .inl (fun _ => 0)), .inl (0, 40, .inl (fun _ => 0)), .inl (0, 40, .inl (fun _ => 0))] _ := w3a.set 0 (.inr (0, [.ref (b + 1), .ref (b + 2), .ref (b + 3), .ref (b + 4), .null, .null, .int 0, .int 0, .int 0])) rfl
  have l3b : (s3a.set (b + 0) (.inr (0, [.ref (b + 1), .ref (b + 2), .ref (b + 3), .ref (b + 4), .null, .null, .int 0, .int 0, .int 0]))).length = b + 5 := by rw [List.length_set]; exact l3a
  have q3b : low b sw (s3a.set (b + 0) (.inr (0, [.ref (b + 1), .ref (b + 2), .ref (b + 3), .ref (b + 4), .null, .null, .int 0, .int 0, .int 0]))) := q3a.tr (low.set 0 _)
  show gv_M ε (d + 1) m_X0_init _ Qs 35 _ _ (List.set s3a (b + 0) (.inr (0, [.ref (b + 1), .ref (b + 2), .ref (b + 3), .ref (b + 4), .null, .null, .int 0, .int 0, .int 0]))) _ _
  generalize List.set s3a _ _ = s3b at w3b l3b q3b ⊢
  refine t_X0_init_35 (t_X0_init_36 (t_X0_init_38 (N := 40) (by decide) (by decide) (by decide) (by omega) (Nat.le_of_ble_eq_true rfl) (Nat.le_of_ble_eq_true rfl) (?_)))
  rw [l3b]
  have w4a : wt b [.inr (0, [.ref (b + 1), .ref (b + 2), .ref (b + 3), .ref (b + 4), .null, .null, .int 0, .int 0, .int 0]), .inl (0, 4, .inl (fun _ => 0)), .inl (0, 40, .inl (fun _ => 0)), .inl (0, 40, .inl (fun _ => 0)), .inl (0, 40, .inl (fun _ => 0)), .inl (0, 40, .inl (fun _ => 0))] _ := w3b.push (x := .inl (0, 40, .inl (fun _ => 0))) l3b
  have l4a : (s3b ++ [(.inl (0, 40, .inl (fun _ => 0)) : va_E)]).length = b + 6 := by rw [List.length_append, l3b]; rfl
  have q4a : low b sw (s3b ++ [(.inl (0, 40, .inl (fun _ => 0)) : va_E)]) := q3b.tr (low.push (by omega))
  generalize s3b ++ _ = s4a at w4a l4a q4a ⊢
  have o4 : s4a[b]? = some (.inr (0, [.ref (b + 1), .ref (b + 2), .ref (b + 3), .ref (b + 4), .null, .null, .int 0, .int 0, .int 0])) := w4a.at 0 rfl
  refine t_X0_init_40 o4 rfl (?_)
  have w4b : wt b [.inr (0, [.ref (b + 1), .ref (b + 2), .ref (b + 3), .ref (b + 4), .ref (b + 5), .null, .int 0, .int 0, .int 0]), .inl (0, 4, .inl (fun _ => 0)), .inl (0, 40, .inl (fun _ => 0)), .inl (0, 40, .inl (fun _ => 0)), .inl (0, 40, .inl (fun _ => 0)), .inl (0, 40, .inl (fun _ => 0))] _ := w4a.set 0 (.inr (0, [.ref (b + 1), .ref (b + 2), .ref (b + 3), .ref (b + 4), .ref (b + 5), .null, .int 0, .int 0, .int 0])) rfl
  have l4b : (s4a.set (b + 0) (.inr (0, [.ref (b + 1), .ref (b + 2), .ref (b + 3), .ref (b + 4), .ref (b + 5), .null, .int 0, .int 0, .int 0]))).length = b + 6 := by rw [List.length_set]; exact l4a
  have q4b : low b sw (s4a.set (b + 0) (.inr (0, [.ref (b + 1), .ref (b + 2), .ref (b + 3), .ref (b + 4), .ref (b + 5), .null, .int 0, .int 0, .int 0]))) := q4a.tr (low.set 0 _)
  show gv_M ε (d + 1) m_X0_init _ Qs 43 _ _ (List.set s4a (b + 0) (.inr (0, [.ref (b + 1), .ref (b + 2), .ref (b + 3), .ref (b + 4), .ref (b + 5), .null, .int 0, .int 0, .int 0]))) _ _
  generalize List.set s4a _ _ = s4b at w4b l4b q4b ⊢
  refine t_X0_init_43 (t_X0_init_44 (t_X0_init_46 (N := 40) (by decide) (by decide) (by decide) (by omega) (Nat.le_of_ble_eq_true rfl) (Nat.le_of_ble_eq_true rfl) (?_)))
  rw [l4b]
  have w5a : wt b [.inr (0, [.ref (b + 1), .ref (b + 2), .ref (b + 3), .ref (b + 4), .ref (b + 5), .null, .int 0, .int 0, .int 0]), .inl (0, 4, .inl (fun _ => 0)), .inl (0, 40, .inl (fun _ => 0)), .inl (0, 40, .inl (fun _ => 0)), .inl (0, 40, .inl (fun _ => 0)), .inl (0, 40, .inl (fun _ => 0)), .inl (0, 40, .inl (fun _ => 0))] _ := w4b.push (x := .inl (0, 40, .inl (fun _ => 0))) l4b
  have l5a : (s4b ++ [(.inl (0, 40, .inl (fun _ => 0)) : va_E)]).length = b + 7 := by rw [List.length_append, l4b]; rfl
  have q5a : low b sw (s4b ++ [(.inl (0, 40, .inl (fun _ => 0)) : va_E)]) := q4b.tr (low.push (by omega))
  generalize s4b ++ _ = s5a at w5a l5a q5a ⊢
  have o5 : s5a[b]? = some (.inr (0, [.ref (b + 1), .ref (b + 2), .ref (b + 3), .ref (b + 4), .ref (b + 5), .null, .int 0, .int 0, .int 0])) := w5a.at 0 rfl
  refine t_X0_init_48 o5 rfl (?_)
  have w5b : wt b [.inr (0, [.ref (b + 1), .ref (b + 2), .ref (b + 3), .ref (b + 4), .ref (b + 5), .ref (b + 6), .int 0, .int 0, .int 0]), .inl (0, 4, .inl (fun _ => 0)), .inl (0, 40, .inl (fun _ => 0)), .inl (0, 40, .inl (fun _ => 0)), .inl (0, 40, .inl (fun _ => 0)), .inl (0, 40, .inl (fun _ => 0)), .inl (0, 40, .inl (fun _ => 0))] _ := w5a.set 0 (.inr (0, [.ref (b + 1), .ref (b + 2), .ref (b + 3), .ref (b + 4), .ref (b + 5), .ref (b + 6), .int 0, .int 0, .int 0])) rfl
  have l5b : (s5a.set (b + 0) (.inr (0, [.ref (b + 1), .ref (b + 2), .ref (b + 3), .ref (b + 4), .ref (b + 5), .ref (b + 6), .int 0, .int 0, .int 0]))).length = b + 7 := by rw [List.length_set]; exact l5a
  have q5b : low b sw (s5a.set (b + 0) (.inr (0, [.ref (b + 1), .ref (b + 2), .ref (b + 3), .ref (b + 4), .ref (b + 5), .ref (b + 6), .int 0, .int 0, .int 0]))) := q5a.tr (low.set 0 _)
  show gv_M ε (d + 1) m_X0_init _ Qs 51 _ _ (List.set s5a (b + 0) (.inr (0, [.ref (b + 1), .ref (b + 2), .ref (b + 3), .ref (b + 4), .ref (b + 5), .ref (b + 6), .int 0, .int 0, .int 0]))) _ _
  generalize List.set s5a _ _ = s5b at w5b l5b q5b ⊢
  refine t_X0_init_51 (Nat.le_of_ble_eq_true rfl) ?_
  exact h1 _ l5b q5b w5b
end IN
section IN4
variable {ε : gv_E} {d : Nat} {Qs : Option Value → List va_E → Prop} {sw : List va_E} {b : Nat}
theorem in_X4 (hw : wt b [.inr (4, [.null, .null, .null, .null, .int 0])] sw) (hl : sw.length = b + 1) (hb : b < 900) (h1 : ∀ t' sw', Rel t' bgR → shOk t' → sw'.length = b + 5 → low b sw sw' → wt b (shF b t') sw' → Qs none sw') : gv_S ε (d + 2) m_X4_init [.ref b] sw Qs := by
  refine gv_S.go rfl ?_
  refine t_X4_init_0 (t_X4_init_1 gv_rmok (Nat.le_of_ble_eq_true rfl) (t_X4_init_4 (t_X4_init_5 (t_X4_init_6 (N := 3) (by decide) (by decide) (by decide) (by omega) (Nat.le_of_ble_eq_true rfl) (Nat.le_of_ble_eq_true rfl) (?_)))))
  rw [hl]
  have w0a : wt b [.inr (4, [.null, .null, .null, .null, .int 0]), .inl (0, 3, .inl (fun _ => 0))] _ := hw.push (x := .inl (0, 3, .inl (fun _ => 0))) hl
  have l0a : (sw ++ [(.inl (0, 3, .inl (fun _ => 0)) : va_E)]).length = b + 2 := by rw [List.length_append, hl]; rfl
  have q0a : low b sw (sw ++ [(.inl (0, 3, .inl (fun _ => 0)) : va_E)]) := (low.rf : low b sw sw).tr (low.push (by omega))
  generalize sw ++ _ = s0a at w0a l0a q0a ⊢
  have o0 : s0a[b]? = some (.inr (4, [.null, .null, .null, .null, .int 0])) := w0a.at 0 rfl
  refine t_X4_init_8 o0 rfl (?_)
  have w0b : wt b [.inr (4, [.ref (b + 1), .null, .null, .null, .int 0]), .inl (0, 3, .inl (fun _ => 0))] _ := w0a.set 0 (.inr (4, [.ref (b + 1), .null, .null, .null, .int 0])) rfl
  have l0b : (s0a.set (b + 0) (.inr (4, [.ref (b + 1), .null, .null, .null, .int 0]))).length = b + 2 := by rw [List.length_set]; exact l0a
  have q0b : low b sw (s0a.set (b + 0) (.inr (4, [.ref (b + 1), .null, .null, .null, .int 0]))) := q0a.tr (low.set 0 _)
  show gv_M ε (d + 2) m_X4_init _ Qs 11 _ _ (List.set s0a (b + 0) (.inr (4, [.ref (b + 1), .null, .null, .null, .int 0]))) _ _
  generalize List.set s0a _ _ = s0b at w0b l0b q0b ⊢
  refine t_X4_init_11 (t_X4_init_12 (t_X4_init_14 (N := 18) (by decide) (by decide) (by decide) (by omega) (Nat.le_of_ble_eq_true rfl) (Nat.le_of_ble_eq_true rfl) (?_)))
  rw [l0b]
  have w1a : wt b [.inr (4, [.ref (b + 1), .null, .null, .null, .int 0]), .inl (0, 3, .inl (fun _ => 0)), .inl (0, 18, .inl (fun _ => 0))] _ := w0b.push (x := .inl (0, 18, .inl (fun _ => 0))) l0b
  have l1a : (s0b ++ [(.inl (0, 18, .inl (fun _ => 0)) : va_E)]).length = b + 3 := by rw [List.length_append, l0b]; rfl
  have q1a : low b sw (s0b ++ [(.inl (0, 18, .inl (fun _ => 0)) : va_E)]) := q0b.tr (low.push (by omega))
  generalize s0b ++ _ = s1a at w1a l1a q1a ⊢
  have o1 : s1a[b]? = some (.inr (4, [.ref (b + 1), .null, .null, .null, .int 0])) := w1a.at 0 rfl
  refine t_X4_init_16 o1 rfl (?_)
  have w1b : wt b [.inr (4, [.ref (b + 1), .ref (b + 2), .null, .null, .int 0]), .inl (0, 3, .inl (fun _ => 0)), .inl (0, 18, .inl (fun _ => 0))] _ := w1a.set 0 (.inr (4, [.ref (b + 1), .ref (b + 2), .null, .null, .int 0])) rfl
  have l1b : (s1a.set (b + 0) (.inr (4, [.ref (b + 1), .ref (b + 2), .null, .null, .int 0]))).length = b + 3 := by rw [List.length_set]; exact l1a
  have q1b : low b sw (s1a.set (b + 0) (.inr (4, [.ref (b + 1), .ref (b + 2), .null, .null, .int 0]))) := q1a.tr (low.set 0 _)
  show gv_M ε (d + 2) m_X4_init _ Qs 19 _ _ (List.set s1a (b + 0) (.inr (4, [.ref (b + 1), .ref (b + 2), .null, .null, .int 0]))) _ _
  generalize List.set s1a _ _ = s1b at w1b l1b q1b ⊢
  refine t_X4_init_19 (t_X4_init_20 (t_X4_init_21 (N := 4) (by decide) (by decide) (by decide) (by omega) (Nat.le_of_ble_eq_true rfl) (Nat.le_of_ble_eq_true rfl) (?_)))
  rw [l1b]
  have w2a : wt b [.inr (4, [.ref (b + 1), .ref (b + 2), .null, .null, .int 0]), .inl (0, 3, .inl (fun _ => 0)), .inl (0, 18, .inl (fun _ => 0)), .inl (0, 4, .inl (fun _ => 0))] _ := w1b.push (x := .inl (0, 4, .inl (fun _ => 0))) l1b
  have l2a : (s1b ++ [(.inl (0, 4, .inl (fun _ => 0)) : va_E)]).length = b + 4 := by rw [List.length_append, l1b]; rfl
  have q2a : low b sw (s1b ++ [(.inl (0, 4, .inl (fun _ => 0)) : va_E)]) := q1b.tr (low.push (by omega))
  generalize s1b ++ _ = s2a at w2a l2a q2a ⊢
  have o2 : s2a[b]? = some (.inr (4, [.ref (b + 1), .ref (b + 2), .null, .null, .int 0])) := w2a.at 0 rfl
  refine t_X4_init_23 o2 rfl (?_)
  have w2b : wt b [.inr (4, [.ref (b + 1), .ref (b + 2), .ref (b + 3), .null, .int 0]), .inl (0, 3, .inl (fun _ => 0)), .inl (0, 18, .inl (fun _ => 0)), .inl (0, 4, .inl (fun _ => 0))] _ := w2a.set 0 (.inr (4, [.ref (b + 1), .ref (b + 2), .ref (b + 3), .null, .int 0])) rfl
  have l2b : (s2a.set (b + 0) (.inr (4, [.ref (b + 1), .ref (b + 2), .ref (b + 3), .null, .int 0]))).length = b + 4 := by rw [List.length_set]; exact l2a
  have q2b : low b sw (s2a.set (b + 0) (.inr (4, [.ref (b + 1), .ref (b + 2), .ref (b + 3), .null, .int 0]))) := q2a.tr (low.set 0 _)
  show gv_M ε (d + 2) m_X4_init _ Qs 26 _ _ (List.set s2a (b + 0) (.inr (4, [.ref (b + 1), .ref (b + 2), .ref (b + 3), .null, .int 0]))) _ _
  generalize List.set s2a _ _ = s2b at w2b l2b q2b ⊢
  refine t_X4_init_26 (t_X4_init_27 (t_X4_init_29 (N := 32) (by decide) (by decide) (by decide) (by omega) (Nat.le_of_ble_eq_true rfl) (Nat.le_of_ble_eq_true rfl) (?_)))
  rw [l2b]
  have w3a : wt b [.inr (4, [.ref (b + 1), .ref (b + 2), .ref (b + 3), .null, .int 0]), .inl (0, 3, .inl (fun _ => 0)), .inl (0, 18, .inl (fun _ => 0)), .inl (0, 4, .inl (fun _ => 0)), .inl (0, 32, .inl (fun _ => 0))] _ := w2b.push (x := .inl (0, 32, .inl (fun _ => 0))) l2b
  have l3a : (s2b ++ [(.inl (0, 32, .inl (fun _ => 0)) : va_E)]).length = b + 5 := by rw [List.length_append, l2b]; rfl
  have q3a : low b sw (s2b ++ [(.inl (0, 32, .inl (fun _ => 0)) : va_E)]) := q2b.tr (low.push (by omega))
  generalize s2b ++ _ = s3a at w3a l3a q3a ⊢
  have o3 : s3a[b]? = some (.inr (4, [.ref (b + 1), .ref (b + 2), .ref (b + 3), .null, .int 0])) := w3a.at 0 rfl
  refine t_X4_init_31 o3 rfl (?_)
  have w3b : wt b [.inr (4, [.ref (b + 1), .ref (b + 2), .ref (b + 3), .ref (b + 4), .int 0]), .inl (0, 3, .inl (fun _ => 0)), .inl (0, 18, .inl (fun _ => 0)), .inl (0, 4, .inl (fun _ => 0)), .inl (0, 32, .inl (fun _ => 0))] _ := w3a.set 0 (.inr (4, [.ref (b + 1), .ref (b + 2), .ref (b + 3), .ref (b + 4), .int 0])) rfl
  have l3b : (s3a.set (b + 0) (.inr (4, [.ref (b + 1), .ref (b + 2), .ref (b + 3), .ref (b + 4), .int 0]))).length = b + 5 := by rw [List.length_set]; exact l3a
  have q3b : low b sw (s3a.set (b + 0) (.inr (4, [.ref (b + 1), .ref (b + 2), .ref (b + 3), .ref (b + 4), .int 0]))) := q3a.tr (low.set 0 _)
  show gv_M ε (d + 2) m_X4_init _ Qs 34 _ _ (List.set s3a (b + 0) (.inr (4, [.ref (b + 1), .ref (b + 2), .ref (b + 3), .ref (b + 4), .int 0]))) _ _
  generalize List.set s3a _ _ = s3b at w3b l3b q3b ⊢
  have hw4 : wt b (shF b (fun _ => 0, fun _ => 0, fun _ => 0, fun _ => 0, 0)) s3b := w3b
  have h4 : s3b[b]? = some (.inr (4, [.ref (b + 1), .ref (b + 2), .ref (b + 3), .ref (b + 4), .int (nI 0)])) := hw4.at 0 rfl
  refine t_X4_init_34 (t_X4_init_35 h4 (Nat.le_of_ble_eq_true rfl) (Nat.le_of_ble_eq_true rfl) (Nat.le_of_ble_eq_true rfl) (sp_X4_reset hw4 (fun t' sw' hR ho w' m' => ?_)))
  refine t_X4_init_38 (Nat.le_of_ble_eq_true rfl) ?_
  exact h1 t' sw' hR ho (m'.1.trans l3b) (q3b.tr (low.same m')) w'
theorem in_X8 (hw : wt 44 [.inr (8, [.null, .int 0, .int 0, .null, .null, .null, .int 0, .null, .int 0, .int 0, .int 0, .null, .int 0, .null, .null, .int 0, .long 0, .int 0, .null, .null])] sw) (hl : sw.length = 45) (h1 : ∀ sw', sw'.length = 55 → low 44 sw sw' → moW (begF (fun _ => 0)) (fun _ => 0) (fun _ => 0) (fun _ => 0) (fun _ => 0) (fun _ => 0) (fun _ => 0) 0 0 0 0 sw' → Qs none sw') : gv_S ε (d + 1) m_X8_init [.ref 44] sw Qs := by
  refine gv_S.go rfl ?_
  refine t_X8_init_0 (t_X8_init_1 gv_rmok (Nat.le_of_ble_eq_true rfl) (t_X8_init_4 (t_X8_init_5 (t_X8_init_7 (N := 58) (by decide) (by decide) (by decide) (by omega) (Nat.le_of_ble_eq_true rfl) (Nat.le_of_ble_eq_true rfl) (?_)))))
  rw [hl]
  have w0a : wt 44 [.inr (8, [.null, .int 0, .int 0, .null, .null, .null, .int 0, .null, .int 0, .int 0, .int 0, .null, .int 0, .null, .null, .int 0, .long 0, .int 0, .null, .null]), .inl (0, 58, .inl (fun _ => 0))] _ := hw.push (x := .inl (0, 58, .inl (fun _ => 0))) hl
  have l0a : (sw ++ [(.inl (0, 58, .inl (fun _ => 0)) : va_E)]).length = 46 := by rw [List.length_append, hl]; rfl
  have q0a : low 44 sw (sw ++ [(.inl (0, 58, .inl (fun _ => 0)) : va_E)]) := (low.rf : low 44 sw sw).tr (low.push (by omega))
  generalize sw ++ _ = s0a at w0a l0a q0a ⊢
  have o0 : s0a[44]? = some (.inr (8, [.null, .int 0, .int 0, .null, .null, .null, .int 0, .null, .int 0, .int 0, .int 0, .null, .int 0, .null, .null, .int 0, .long 0, .int 0, .null, .null])) := w0a.at 0 rfl
  refine t_X8_init_9 o0 rfl (?_)
  have w0b : wt 44 [.inr (8, [.ref 45, .int 0, .int 0, .null, .null, .null, .int 0, .null, .int 0, .int 0, .int 0, .null, .int 0, .null, .null, .int 0, .long 0, .int 0, .null, .null]), .inl (0, 58, .inl (fun _ => 0))] _ := w0a.set 0 (.inr (8, [.ref 45, .int 0, .int 0, .null, .null, .null, .int 0, .null, .int 0, .int 0, .int 0, .null, .int 0, .null, .null, .int 0, .long 0, .int 0, .null, .null])) rfl
  have l0b : (s0a.set (44 + 0) (.inr (8, [.ref 45, .int 0, .int 0, .null, .null, .null, .int 0, .null, .int 0, .int 0, .int 0, .null, .int 0, .null, .null, .int 0, .long 0, .int 0, .null, .null]))).length = 46 := by rw [List.length_set]; exact l0a
  have q0b : low 44 sw (s0a.set (44 + 0) (.inr (8, [.ref 45, .int 0, .int 0, .null, .null, .null, .int 0, .null, .int 0, .int 0, .int 0, .null, .int 0, .null, .null, .int 0, .long 0, .int 0, .null, .null]))) := q0a.tr (low.set 0 _)
  show gv_M ε (d + 1) m_X8_init _ Qs 12 _ _ (List.set s0a (44 + 0) (.inr (8, [.ref 45, .int 0, .int 0, .null, .null, .null, .int 0, .null, .int 0, .int 0, .int 0, .null, .int 0, .null, .null, .int 0, .long 0, .int 0, .null, .null]))) _ _
  generalize List.set s0a _ _ = s0b at w0b l0b q0b ⊢
  refine t_X8_init_12 (t_X8_init_13 (t_X8_init_16 (N := 580) (by decide) (by decide) (by decide) (by omega) (Nat.le_of_ble_eq_true rfl) (Nat.le_of_ble_eq_true rfl) (?_)))
  rw [l0b]
  have w1a : wt 44 [.inr (8, [.ref 45, .int 0, .int 0, .null, .null, .null, .int 0, .null, .int 0, .int 0, .int 0, .null, .int 0, .null, .null, .int 0, .long 0, .int 0, .null, .null]), .inl (0, 58, .inl (fun _ => 0)), .inl (0, 580, .inl (fun _ => 0))] _ := w0b.push (x := .inl (0, 580, .inl (fun _ => 0))) l0b
  have l1a : (s0b ++ [(.inl (0, 580, .inl (fun _ => 0)) : va_E)]).length = 47 := by rw [List.length_append, l0b]; rfl
  have q1a : low 44 sw (s0b ++ [(.inl (0, 580, .inl (fun _ => 0)) : va_E)]) := q0b.tr (low.push (by omega))
  generalize s0b ++ _ = s1a at w1a l1a q1a ⊢
  have o1 : s1a[44]? = some (.inr (8, [.ref 45, .int 0, .int 0, .null, .null, .null, .int 0, .null, .int 0, .int 0, .int 0, .null, .int 0, .null, .null, .int 0, .long 0, .int 0, .null, .null])) := w1a.at 0 rfl
  refine t_X8_init_18 o1 rfl (?_)
  have w1b : wt 44 [.inr (8, [.ref 45, .int 0, .int 0, .ref 46, .null, .null, .int 0, .null, .int 0, .int 0, .int 0, .null, .int 0, .null, .null, .int 0, .long 0, .int 0, .null, .null]), .inl (0, 58, .inl (fun _ => 0)), .inl (0, 580, .inl (fun _ => 0))] _ := w1a.set 0 (.inr (8, [.ref 45, .int 0, .int 0, .ref 46, .null, .null, .int 0, .null, .int 0, .int 0, .int 0, .null, .int 0, .null, .null, .int 0, .long 0, .int 0, .null, .null])) rfl
  have l1b : (s1a.set (44 + 0) (.inr (8, [.ref 45, .int 0, .int 0, .ref 46, .null, .null, .int 0, .null, .int 0, .int 0, .int 0, .null, .int 0, .null, .null, .int 0, .long 0, .int 0, .null, .null]))).length = 47 := by rw [List.length_set]; exact l1a
  have q1b : low 44 sw (s1a.set (44 + 0) (.inr (8, [.ref 45, .int 0, .int 0, .ref 46, .null, .null, .int 0, .null, .int 0, .int 0, .int 0, .null, .int 0, .null, .null, .int 0, .long 0, .int 0, .null, .null]))) := q1a.tr (low.set 0 _)
  show gv_M ε (d + 1) m_X8_init _ Qs 21 _ _ (List.set s1a (44 + 0) (.inr (8, [.ref 45, .int 0, .int 0, .ref 46, .null, .null, .int 0, .null, .int 0, .int 0, .int 0, .null, .int 0, .null, .null, .int 0, .long 0, .int 0, .null, .null]))) _ _
  generalize List.set s1a _ _ = s1b at w1b l1b q1b ⊢
  refine t_X8_init_21 (t_X8_init_22 (t_X8_init_23 (N := 2) (by decide) (by decide) (by decide) (by omega) (Nat.le_of_ble_eq_true rfl) (Nat.le_of_ble_eq_true rfl) (?_)))
  rw [l1b]
  have w2a : wt 44 [.inr (8, [.ref 45, .int 0, .int 0, .ref 46, .null, .null, .int 0, .null, .int 0, .int 0, .int 0, .null, .int 0, .null, .null, .int 0, .long 0, .int 0, .null, .null]), .inl (0, 58, .inl (fun _ => 0)), .inl (0, 580, .inl (fun _ => 0)), .inl (1, 2, .inl (fun _ => 0))] _ := w1b.push (x := .inl (1, 2, .inl (fun _ => 0))) l1b
  have l2a : (s1b ++ [(.inl (1, 2, .inl (fun _ => 0)) : va_E)]).length = 48 := by rw [List.length_append, l1b]; rfl
  have q2a : low 44 sw (s1b ++ [(.inl (1, 2, .inl (fun _ => 0)) : va_E)]) := q1b.tr (low.push (by omega))
  generalize s1b ++ _ = s2a at w2a l2a q2a ⊢
  have o2 : s2a[44]? = some (.inr (8, [.ref 45, .int 0, .int 0, .ref 46, .null, .null, .int 0, .null, .int 0, .int 0, .int 0, .null, .int 0, .null, .null, .int 0, .long 0, .int 0, .null, .null])) := w2a.at 0 rfl
  refine t_X8_init_25 o2 rfl (?_)
  have w2b : wt 44 [.inr (8, [.ref 45, .int 0, .int 0, .ref 46, .ref 47, .null, .int 0, .null, .int 0, .int 0, .int 0, .null, .int 0, .null, .null, .int 0, .long 0, .int 0, .null, .null]), .inl (0, 58, .inl (fun _ => 0)), .inl (0, 580, .inl (fun _ => 0)), .inl (1, 2, .inl (fun _ => 0))] _ := w2a.set 0 (.inr (8, [.ref 45, .int 0, .int 0, .ref 46, .ref 47, .null, .int 0, .null, .int 0, .int 0, .int 0, .null, .int 0, .null, .null, .int 0, .long 0, .int 0, .null, .null])) rfl
  have l2b : (s2a.set (44 + 0) (.inr (8, [.ref 45, .int 0, .int 0, .ref 46, .ref 47, .null, .int 0, .null, .int 0, .int 0, .int 0, .null, .int 0, .null, .null, .int 0, .long 0, .int 0, .null, .null]))).length = 48 := by rw [List.length_set]; exact l2a
  have q2b : low 44 sw (s2a.set (44 + 0) (.inr (8, [.ref 45, .int 0, .int 0, .ref 46, .ref 47, .null, .int 0, .null, .int 0, .int 0, .int 0, .null, .int 0, .null, .null, .int 0, .long 0, .int 0, .null, .null]))) := q2a.tr (low.set 0 _)
  show gv_M ε (d + 1) m_X8_init _ Qs 28 _ _ (List.set s2a (44 + 0) (.inr (8, [.ref 45, .int 0, .int 0, .ref 46, .ref 47, .null, .int 0, .null, .int 0, .int 0, .int 0, .null, .int 0, .null, .null, .int 0, .long 0, .int 0, .null, .null]))) _ _
  generalize List.set s2a _ _ = s2b at w2b l2b q2b ⊢
  refine t_X8_init_28 (t_X8_init_29 (t_X8_init_31 (N := 116) (by decide) (by decide) (by decide) (by omega) (Nat.le_of_ble_eq_true rfl) (Nat.le_of_ble_eq_true rfl) (?_)))
  rw [l2b]
  have w3a : wt 44 [.inr (8, [.ref 45, .int 0, .int 0, .ref 46, .ref 47, .null, .int 0, .null, .int 0, .int 0, .int 0, .null, .int 0, .null, .null, .int 0, .long 0, .int 0, .null, .null]), .inl (0, 58, .inl (fun _ => 0)), .inl (0, 580, .inl (fun _ => 0)), .inl (1, 2, .inl (fun _ => 0)), .inl (0, 116, .inl (fun _ => 0))] _ := w2b.push (x := .inl (0, 116, .inl (fun _ => 0))) l2b
  have l3a : (s2b ++ [(.inl (0, 116, .inl (fun _ => 0)) : va_E)]).length = 49 := by rw [List.length_append, l2b]; rfl
  have q3a : low 44 sw (s2b ++ [(.inl (0, 116, .inl (fun _ => 0)) : va_E)]) := q2b.tr (low.push (by omega))
  generalize s2b ++ _ = s3a at w3a l3a q3a ⊢
  have o3 : s3a[44]? = some (.inr (8, [.ref 45, .int 0, .int 0, .ref 46, .ref 47, .null, .int 0, .null, .int 0, .int 0, .int 0, .null, .int 0, .null, .null, .int 0, .long 0, .int 0, .null, .null])) := w3a.at 0 rfl
  refine t_X8_init_33 o3 rfl (?_)
  have w3b : wt 44 [.inr (8, [.ref 45, .int 0, .int 0, .ref 46, .ref 47, .ref 48, .int 0, .null, .int 0, .int 0, .int 0, .null, .int 0, .null, .null, .int 0, .long 0, .int 0, .null, .null]), .inl (0, 58, .inl (fun _ => 0)), .inl (0, 580, .inl (fun _ => 0)), .inl (1, 2, .inl (fun _ => 0)), .inl (0, 116, .inl (fun _ => 0))] _ := w3a.set 0 (.inr (8, [.ref 45, .int 0, .int 0, .ref 46, .ref 47, .ref 48, .int 0, .null, .int 0, .int 0, .int 0, .null, .int 0, .null, .null, .int 0, .long 0, .int 0, .null, .null])) rfl
  have l3b : (s3a.set (44 + 0) (.inr (8, [.ref 45, .int 0, .int 0, .ref 46, .ref 47, .ref 48, .int 0, .null, .int 0, .int 0, .int 0, .null, .int 0, .null, .null, .int 0, .long 0, .int 0, .null, .null]))).length = 49 := by rw [List.length_set]; exact l3a
  have q3b : low 44 sw (s3a.set (44 + 0) (.inr (8, [.ref 45, .int 0, .int 0, .ref 46, .ref 47, .ref 48, .int 0, .null, .int 0, .int 0, .int 0, .null, .int 0, .null, .null, .int 0, .long 0, .int 0, .null, .null]))) := q3a.tr (low.set 0 _)
  show gv_M ε (d + 1) m_X8_init _ Qs 36 _ _ (List.set s3a (44 + 0) (.inr (8, [.ref 45, .int 0, .int 0, .ref 46, .ref 47, .ref 48, .int 0, .null, .int 0, .int 0, .int 0, .null, .int 0, .null, .null, .int 0, .long 0, .int 0, .null, .null]))) _ _
  generalize List.set s3a _ _ = s3b at w3b l3b q3b ⊢
  refine t_X8_init_36 (t_X8_init_37 (t_X8_init_39 (N := 120) (by decide) (by decide) (by decide) (by omega) (Nat.le_of_ble_eq_true rfl) (Nat.le_of_ble_eq_true rfl) (?_)))
  rw [l3b]
  have w4a : wt 44 [.inr (8, [.ref 45, .int 0, .int 0, .ref 46, .ref 47, .ref 48, .int 0, .null, .int 0, .int 0, .int 0, .null, .int 0, .null, .null, .int 0, .long 0, .int 0, .null, .null]), .inl (0, 58, .inl (fun _ => 0)), .inl (0, 580, .inl (fun _ => 0)), .inl (1, 2, .inl (fun _ => 0)), .inl (0, 116, .inl (fun _ => 0)), .inl (0, 120, .inl (fun _ => 0))] _ := w3b.push (x := .inl (0, 120, .inl (fun _ => 0))) l3b
  have l4a : (s3b ++ [(.inl (0, 120, .inl (fun _ => 0)) : va_E)]).length = 50 := by rw [List.length_append, l3b]; rfl
  have q4a : low 44 sw (s3b ++ [(.inl (0, 120, .inl (fun _ => 0)) : va_E)]) := q3b.tr (low.push (by omega))
  generalize s3b ++ _ = s4a at w4a l4a q4a ⊢
  have o4 : s4a[44]? = some (.inr (8, [.ref 45, .int 0, .int 0, .ref 46, .ref 47, .ref 48, .int 0, .null, .int 0, .int 0, .int 0, .null, .int 0, .null, .null, .int 0, .long 0, .int 0, .null, .null])) := w4a.at 0 rfl
  refine t_X8_init_41 o4 rfl (?_)
  have w4b : wt 44 [.inr (8, [.ref 45, .int 0, .int 0, .ref 46, .ref 47, .ref 48, .int 0, .ref 49, .int 0, .int 0, .int 0, .null, .int 0, .null, .null, .int 0, .long 0, .int 0, .null, .null]), .inl (0, 58, .inl (fun _ => 0)), .inl (0, 580, .inl (fun _ => 0)), .inl (1, 2, .inl (fun _ => 0)), .inl (0, 116, .inl (fun _ => 0)), .inl (0, 120, .inl (fun _ => 0))] _ := w4a.set 0 (.inr (8, [.ref 45, .int 0, .int 0, .ref 46, .ref 47, .ref 48, .int 0, .ref 49, .int 0, .int 0, .int 0, .null, .int 0, .null, .null, .int 0, .long 0, .int 0, .null, .null])) rfl
  have l4b : (s4a.set (44 + 0) (.inr (8, [.ref 45, .int 0, .int 0, .ref 46, .ref 47, .ref 48, .int 0, .ref 49, .int 0, .int 0, .int 0, .null, .int 0, .null, .null, .int 0, .long 0, .int 0, .null, .null]))).length = 50 := by rw [List.length_set]; exact l4a
  have q4b : low 44 sw (s4a.set (44 + 0) (.inr (8, [.ref 45, .int 0, .int 0, .ref 46, .ref 47, .ref 48, .int 0, .ref 49, .int 0, .int 0, .int 0, .null, .int 0, .null, .null, .int 0, .long 0, .int 0, .null, .null]))) := q4a.tr (low.set 0 _)
  show gv_M ε (d + 1) m_X8_init _ Qs 44 _ _ (List.set s4a (44 + 0) (.inr (8, [.ref 45, .int 0, .int 0, .ref 46, .ref 47, .ref 48, .int 0, .ref 49, .int 0, .int 0, .int 0, .null, .int 0, .null, .null, .int 0, .long 0, .int 0, .null, .null]))) _ _
  generalize List.set s4a _ _ = s4b at w4b l4b q4b ⊢
  refine t_X8_init_44 (t_X8_init_45 (t_X8_init_47 (N := 58) (by decide) (by decide) (by decide) (by omega) (Nat.le_of_ble_eq_true rfl) (Nat.le_of_ble_eq_true rfl) (?_)))
  rw [l4b]
  have w5a : wt 44 [.inr (8, [.ref 45, .int 0, .int 0, .ref 46, .ref 47, .ref 48, .int 0, .ref 49, .int 0, .int 0, .int 0, .null, .int 0, .null, .null, .int 0, .long 0, .int 0, .null, .null]), .inl (0, 58, .inl (fun _ => 0)), .inl (0, 580, .inl (fun _ => 0)), .inl (1, 2, .inl (fun _ => 0)), .inl (0, 116, .inl (fun _ => 0)), .inl (0, 120, .inl (fun _ => 0)), .inl (0, 58, .inl (fun _ => 0))] _ := w4b.push (x := .inl (0, 58, .inl (fun _ => 0))) l4b
  have l5a : (s4b ++ [(.inl (0, 58, .inl (fun _ => 0)) : va_E)]).length = 51 := by rw [List.length_append, l4b]; rfl
  have q5a : low 44 sw (s4b ++ [(.inl (0, 58, .inl (fun _ => 0)) : va_E)]) := q4b.tr (low.push (by omega))
  generalize s4b ++ _ = s5a at w5a l5a q5a ⊢
  have o5 : s5a[44]? = some (.inr (8, [.ref 45, .int 0, .int 0, .ref 46, .ref 47, .ref 48, .int 0, .ref 49, .int 0, .int 0, .int 0, .null, .int 0, .null, .null, .int 0, .long 0, .int 0, .null, .null])) := w5a.at 0 rfl
  refine t_X8_init_49 o5 rfl (?_)
  have w5b : wt 44 [.inr (8, [.ref 45, .int 0, .int 0, .ref 46, .ref 47, .ref 48, .int 0, .ref 49, .int 0, .int 0, .int 0, .ref 50, .int 0, .null, .null, .int 0, .long 0, .int 0, .null, .null]), .inl (0, 58, .inl (fun _ => 0)), .inl (0, 580, .inl (fun _ => 0)), .inl (1, 2, .inl (fun _ => 0)), .inl (0, 116, .inl (fun _ => 0)), .inl (0, 120, .inl (fun _ => 0)), .inl (0, 58, .inl (fun _ => 0))] _ := w5a.set 0 (.inr (8, [.ref 45, .int 0, .int 0, .ref 46, .ref 47, .ref 48, .int 0, .ref 49, .int 0, .int 0, .int 0, .ref 50, .int 0, .null, .null, .int 0, .long 0, .int 0, .null, .null])) rfl
  have l5b : (s5a.set (44 + 0) (.inr (8, [.ref 45, .int 0, .int 0, .ref 46, .ref 47, .ref 48, .int 0, .ref 49, .int 0, .int 0, .int 0, .ref 50, .int 0, .null, .null, .int 0, .long 0, .int 0, .null, .null]))).length = 51 := by rw [List.length_set]; exact l5a
  have q5b : low 44 sw (s5a.set (44 + 0) (.inr (8, [.ref 45, .int 0, .int 0, .ref 46, .ref 47, .ref 48, .int 0, .ref 49, .int 0, .int 0, .int 0, .ref 50, .int 0, .null, .null, .int 0, .long 0, .int 0, .null, .null]))) := q5a.tr (low.set 0 _)
  show gv_M ε (d + 1) m_X8_init _ Qs 52 _ _ (List.set s5a (44 + 0) (.inr (8, [.ref 45, .int 0, .int 0, .ref 46, .ref 47, .ref 48, .int 0, .ref 49, .int 0, .int 0, .int 0, .ref 50, .int 0, .null, .null, .int 0, .long 0, .int 0, .null, .null]))) _ _
  generalize List.set s5a _ _ = s5b at w5b l5b q5b ⊢
  refine t_X8_init_52 (t_X8_init_53 (t_X8_init_55 (N := 96) (by decide) (by decide) (by decide) (by omega) (Nat.le_of_ble_eq_true rfl) (Nat.le_of_ble_eq_true rfl) (?_)))
  rw [l5b]
  have w6a : wt 44 [.inr (8, [.ref 45, .int 0, .int 0, .ref 46, .ref 47, .ref 48, .int 0, .ref 49, .int 0, .int 0, .int 0, .ref 50, .int 0, .null, .null, .int 0, .long 0, .int 0, .null, .null]), .inl (0, 58, .inl (fun _ => 0)), .inl (0, 580, .inl (fun _ => 0)), .inl (1, 2, .inl (fun _ => 0)), .inl (0, 116, .inl (fun _ => 0)), .inl (0, 120, .inl (fun _ => 0)), .inl (0, 58, .inl (fun _ => 0)), .inl (0, 96, .inl (fun _ => 0))] _ := w5b.push (x := .inl (0, 96, .inl (fun _ => 0))) l5b
  have l6a : (s5b ++ [(.inl (0, 96, .inl (fun _ => 0)) : va_E)]).length = 52 := by rw [List.length_append, l5b]; rfl
  have q6a : low 44 sw (s5b ++ [(.inl (0, 96, .inl (fun _ => 0)) : va_E)]) := q5b.tr (low.push (by omega))
  generalize s5b ++ _ = s6a at w6a l6a q6a ⊢
  have o6 : s6a[44]? = some (.inr (8, [.ref 45, .int 0, .int 0, .ref 46, .ref 47, .ref 48, .int 0, .ref 49, .int 0, .int 0, .int 0, .ref 50, .int 0, .null, .null, .int 0, .long 0, .int 0, .null, .null])) := w6a.at 0 rfl
  refine t_X8_init_57 o6 rfl (?_)
  have w6b : wt 44 [.inr (8, [.ref 45, .int 0, .int 0, .ref 46, .ref 47, .ref 48, .int 0, .ref 49, .int 0, .int 0, .int 0, .ref 50, .int 0, .ref 51, .null, .int 0, .long 0, .int 0, .null, .null]), .inl (0, 58, .inl (fun _ => 0)), .inl (0, 580, .inl (fun _ => 0)), .inl (1, 2, .inl (fun _ => 0)), .inl (0, 116, .inl (fun _ => 0)), .inl (0, 120, .inl (fun _ => 0)), .inl (0, 58, .inl (fun _ => 0)), .inl (0, 96, .inl (fun _ => 0))] _ := w6a.set 0 (.inr (8, [.ref 45, .int 0, .int 0, .ref 46, .ref 47, .ref 48, .int 0, .ref 49, .int 0, .int 0, .int 0, .ref 50, .int 0, .ref 51, .null, .int 0, .long 0, .int 0, .null, .null])) rfl
  have l6b : (s6a.set (44 + 0) (.inr (8, [.ref 45, .int 0, .int 0, .ref 46, .ref 47, .ref 48, .int 0, .ref 49, .int 0, .int 0, .int 0, .ref 50, .int 0, .ref 51, .null, .int 0, .long 0, .int 0, .null, .null]))).length = 52 := by rw [List.length_set]; exact l6a
  have q6b : low 44 sw (s6a.set (44 + 0) (.inr (8, [.ref 45, .int 0, .int 0, .ref 46, .ref 47, .ref 48, .int 0, .ref 49, .int 0, .int 0, .int 0, .ref 50, .int 0, .ref 51, .null, .int 0, .long 0, .int 0, .null, .null]))) := q6a.tr (low.set 0 _)
  show gv_M ε (d + 1) m_X8_init _ Qs 60 _ _ (List.set s6a (44 + 0) (.inr (8, [.ref 45, .int 0, .int 0, .ref 46, .ref 47, .ref 48, .int 0, .ref 49, .int 0, .int 0, .int 0, .ref 50, .int 0, .ref 51, .null, .int 0, .long 0, .int 0, .null, .null]))) _ _
  generalize List.set s6a _ _ = s6b at w6b l6b q6b ⊢
  refine t_X8_init_60 (t_X8_init_61 (t_X8_init_63 (N := 96) (by decide) (by decide) (by decide) (by omega) (Nat.le_of_ble_eq_true rfl) (Nat.le_of_ble_eq_true rfl) (?_)))
  rw [l6b]
  have w7a : wt 44 [.inr (8, [.ref 45, .int 0, .int 0, .ref 46, .ref 47, .ref 48, .int 0, .ref 49, .int 0, .int 0, .int 0, .ref 50, .int 0, .ref 51, .null, .int 0, .long 0, .int 0, .null, .null]), .inl (0, 58, .inl (fun _ => 0)), .inl (0, 580, .inl (fun _ => 0)), .inl (1, 2, .inl (fun _ => 0)), .inl (0, 116, .inl (fun _ => 0)), .inl (0, 120, .inl (fun _ => 0)), .inl (0, 58, .inl (fun _ => 0)), .inl (0, 96, .inl (fun _ => 0)), .inl (0, 96, .inl (fun _ => 0))] _ := w6b.push (x := .inl (0, 96, .inl (fun _ => 0))) l6b
  have l7a : (s6b ++ [(.inl (0, 96, .inl (fun _ => 0)) : va_E)]).length = 53 := by rw [List.length_append, l6b]; rfl
  have q7a : low 44 sw (s6b ++ [(.inl (0, 96, .inl (fun _ => 0)) : va_E)]) := q6b.tr (low.push (by omega))
  generalize s6b ++ _ = s7a at w7a l7a q7a ⊢
  have o7 : s7a[44]? = some (.inr (8, [.ref 45, .int 0, .int 0, .ref 46, .ref 47, .ref 48, .int 0, .ref 49, .int 0, .int 0, .int 0, .ref 50, .int 0, .ref 51, .null, .int 0, .long 0, .int 0, .null, .null])) := w7a.at 0 rfl
  refine t_X8_init_65 o7 rfl (?_)
  have w7b : wt 44 [.inr (8, [.ref 45, .int 0, .int 0, .ref 46, .ref 47, .ref 48, .int 0, .ref 49, .int 0, .int 0, .int 0, .ref 50, .int 0, .ref 51, .ref 52, .int 0, .long 0, .int 0, .null, .null]), .inl (0, 58, .inl (fun _ => 0)), .inl (0, 580, .inl (fun _ => 0)), .inl (1, 2, .inl (fun _ => 0)), .inl (0, 116, .inl (fun _ => 0)), .inl (0, 120, .inl (fun _ => 0)), .inl (0, 58, .inl (fun _ => 0)), .inl (0, 96, .inl (fun _ => 0)), .inl (0, 96, .inl (fun _ => 0))] _ := w7a.set 0 (.inr (8, [.ref 45, .int 0, .int 0, .ref 46, .ref 47, .ref 48, .int 0, .ref 49, .int 0, .int 0, .int 0, .ref 50, .int 0, .ref 51, .ref 52, .int 0, .long 0, .int 0, .null, .null])) rfl
  have l7b : (s7a.set (44 + 0) (.inr (8, [.ref 45, .int 0, .int 0, .ref 46, .ref 47, .ref 48, .int 0, .ref 49, .int 0, .int 0, .int 0, .ref 50, .int 0, .ref 51, .ref 52, .int 0, .long 0, .int 0, .null, .null]))).length = 53 := by rw [List.length_set]; exact l7a
  have q7b : low 44 sw (s7a.set (44 + 0) (.inr (8, [.ref 45, .int 0, .int 0, .ref 46, .ref 47, .ref 48, .int 0, .ref 49, .int 0, .int 0, .int 0, .ref 50, .int 0, .ref 51, .ref 52, .int 0, .long 0, .int 0, .null, .null]))) := q7a.tr (low.set 0 _)
  show gv_M ε (d + 1) m_X8_init _ Qs 68 _ _ (List.set s7a (44 + 0) (.inr (8, [.ref 45, .int 0, .int 0, .ref 46, .ref 47, .ref 48, .int 0, .ref 49, .int 0, .int 0, .int 0, .ref 50, .int 0, .ref 51, .ref 52, .int 0, .long 0, .int 0, .null, .null]))) _ _
  generalize List.set s7a _ _ = s7b at w7b l7b q7b ⊢
  refine t_X8_init_68 (t_X8_init_69 (t_X8_init_71 (N := 6) (by decide) (by decide) (by decide) (by omega) (Nat.le_of_ble_eq_true rfl) (Nat.le_of_ble_eq_true rfl) (?_)))
  rw [l7b]
  have w8a : wt 44 [.inr (8, [.ref 45, .int 0, .int 0, .ref 46, .ref 47, .ref 48, .int 0, .ref 49, .int 0, .int 0, .int 0, .ref 50, .int 0, .ref 51, .ref 52, .int 0, .long 0, .int 0, .null, .null]), .inl (0, 58, .inl (fun _ => 0)), .inl (0, 580, .inl (fun _ => 0)), .inl (1, 2, .inl (fun _ => 0)), .inl (0, 116, .inl (fun _ => 0)), .inl (0, 120, .inl (fun _ => 0)), .inl (0, 58, .inl (fun _ => 0)), .inl (0, 96, .inl (fun _ => 0)), .inl (0, 96, .inl (fun _ => 0)), .inl (0, 6, .inl (fun _ => 0))] _ := w7b.push (x := .inl (0, 6, .inl (fun _ => 0))) l7b
  have l8a : (s7b ++ [(.inl (0, 6, .inl (fun _ => 0)) : va_E)]).length = 54 := by rw [List.length_append, l7b]; rfl
  have q8a : low 44 sw (s7b ++ [(.inl (0, 6, .inl (fun _ => 0)) : va_E)]) := q7b.tr (low.push (by omega))
  generalize s7b ++ _ = s8a at w8a l8a q8a ⊢
  have o8 : s8a[44]? = some (.inr (8, [.ref 45, .int 0, .int 0, .ref 46, .ref 47, .ref 48, .int 0, .ref 49, .int 0, .int 0, .int 0, .ref 50, .int 0, .ref 51, .ref 52, .int 0, .long 0, .int 0, .null, .null])) := w8a.at 0 rfl
  refine t_X8_init_73 o8 rfl (?_)
  have w8b : wt 44 [.inr (8, [.ref 45, .int 0, .int 0, .ref 46, .ref 47, .ref 48, .int 0, .ref 49, .int 0, .int 0, .int 0, .ref 50, .int 0, .ref 51, .ref 52, .int 0, .long 0, .int 0, .ref 53, .null]), .inl (0, 58, .inl (fun _ => 0)), .inl (0, 580, .inl (fun _ => 0)), .inl (1, 2, .inl (fun _ => 0)), .inl (0, 116, .inl (fun _ => 0)), .inl (0, 120, .inl (fun _ => 0)), .inl (0, 58, .inl (fun _ => 0)), .inl (0, 96, .inl (fun _ => 0)), .inl (0, 96, .inl (fun _ => 0)), .inl (0, 6, .inl (fun _ => 0))] _ := w8a.set 0 (.inr (8, [.ref 45, .int 0, .int 0, .ref 46, .ref 47, .ref 48, .int 0, .ref 49, .int 0, .int 0, .int 0, .ref 50, .int 0, .ref 51, .ref 52, .int 0, .long 0, .int 0, .ref 53, .null])) rfl
  have l8b : (s8a.set (44 + 0) (.inr (8, [.ref 45, .int 0, .int 0, .ref 46, .ref 47, .ref 48, .int 0, .ref 49, .int 0, .int 0, .int 0, .ref 50, .int 0, .ref 51, .ref 52, .int 0, .long 0, .int 0, .ref 53, .null]))).length = 54 := by rw [List.length_set]; exact l8a
  have q8b : low 44 sw (s8a.set (44 + 0) (.inr (8, [.ref 45, .int 0, .int 0, .ref 46, .ref 47, .ref 48, .int 0, .ref 49, .int 0, .int 0, .int 0, .ref 50, .int 0, .ref 51, .ref 52, .int 0, .long 0, .int 0, .ref 53, .null]))) := q8a.tr (low.set 0 _)
  show gv_M ε (d + 1) m_X8_init _ Qs 76 _ _ (List.set s8a (44 + 0) (.inr (8, [.ref 45, .int 0, .int 0, .ref 46, .ref 47, .ref 48, .int 0, .ref 49, .int 0, .int 0, .int 0, .ref 50, .int 0, .ref 51, .ref 52, .int 0, .long 0, .int 0, .ref 53, .null]))) _ _
  generalize List.set s8a _ _ = s8b at w8b l8b q8b ⊢
  refine t_X8_init_76 (t_X8_init_77 (t_X8_init_79 (N := 6) (by decide) (by decide) (by decide) (by omega) (Nat.le_of_ble_eq_true rfl) (Nat.le_of_ble_eq_true rfl) (?_)))
  rw [l8b]
  have w9a : wt 44 [.inr (8, [.ref 45, .int 0, .int 0, .ref 46, .ref 47, .ref 48, .int 0, .ref 49, .int 0, .int 0, .int 0, .ref 50, .int 0, .ref 51, .ref 52, .int 0, .long 0, .int 0, .ref 53, .null]), .inl (0, 58, .inl (fun _ => 0)), .inl (0, 580, .inl (fun _ => 0)), .inl (1, 2, .inl (fun _ => 0)), .inl (0, 116, .inl (fun _ => 0)), .inl (0, 120, .inl (fun _ => 0)), .inl (0, 58, .inl (fun _ => 0)), .inl (0, 96, .inl (fun _ => 0)), .inl (0, 96, .inl (fun _ => 0)), .inl (0, 6, .inl (fun _ => 0)), .inl (0, 6, .inl (fun _ => 0))] _ := w8b.push (x := .inl (0, 6, .inl (fun _ => 0))) l8b
  have l9a : (s8b ++ [(.inl (0, 6, .inl (fun _ => 0)) : va_E)]).length = 55 := by rw [List.length_append, l8b]; rfl
  have q9a : low 44 sw (s8b ++ [(.inl (0, 6, .inl (fun _ => 0)) : va_E)]) := q8b.tr (low.push (by omega))
  generalize s8b ++ _ = s9a at w9a l9a q9a ⊢
  have o9 : s9a[44]? = some (.inr (8, [.ref 45, .int 0, .int 0, .ref 46, .ref 47, .ref 48, .int 0, .ref 49, .int 0, .int 0, .int 0, .ref 50, .int 0, .ref 51, .ref 52, .int 0, .long 0, .int 0, .ref 53, .null])) := w9a.at 0 rfl
  refine t_X8_init_81 o9 rfl (?_)
  have w9b : wt 44 [.inr (8, [.ref 45, .int 0, .int 0, .ref 46, .ref 47, .ref 48, .int 0, .ref 49, .int 0, .int 0, .int 0, .ref 50, .int 0, .ref 51, .ref 52, .int 0, .long 0, .int 0, .ref 53, .ref 54]), .inl (0, 58, .inl (fun _ => 0)), .inl (0, 580, .inl (fun _ => 0)), .inl (1, 2, .inl (fun _ => 0)), .inl (0, 116, .inl (fun _ => 0)), .inl (0, 120, .inl (fun _ => 0)), .inl (0, 58, .inl (fun _ => 0)), .inl (0, 96, .inl (fun _ => 0)), .inl (0, 96, .inl (fun _ => 0)), .inl (0, 6, .inl (fun _ => 0)), .inl (0, 6, .inl (fun _ => 0))] _ := w9a.set 0 (.inr (8, [.ref 45, .int 0, .int 0, .ref 46, .ref 47, .ref 48, .int 0, .ref 49, .int 0, .int 0, .int 0, .ref 50, .int 0, .ref 51, .ref 52, .int 0, .long 0, .int 0, .ref 53, .ref 54])) rfl
  have l9b : (s9a.set (44 + 0) (.inr (8, [.ref 45, .int 0, .int 0, .ref 46, .ref 47, .ref 48, .int 0, .ref 49, .int 0, .int 0, .int 0, .ref 50, .int 0, .ref 51, .ref 52, .int 0, .long 0, .int 0, .ref 53, .ref 54]))).length = 55 := by rw [List.length_set]; exact l9a
  have q9b : low 44 sw (s9a.set (44 + 0) (.inr (8, [.ref 45, .int 0, .int 0, .ref 46, .ref 47, .ref 48, .int 0, .ref 49, .int 0, .int 0, .int 0, .ref 50, .int 0, .ref 51, .ref 52, .int 0, .long 0, .int 0, .ref 53, .ref 54]))) := q9a.tr (low.set 0 _)
  show gv_M ε (d + 1) m_X8_init _ Qs 84 _ _ (List.set s9a (44 + 0) (.inr (8, [.ref 45, .int 0, .int 0, .ref 46, .ref 47, .ref 48, .int 0, .ref 49, .int 0, .int 0, .int 0, .ref 50, .int 0, .ref 51, .ref 52, .int 0, .long 0, .int 0, .ref 53, .ref 54]))) _ _
  generalize List.set s9a _ _ = s9b at w9b l9b q9b ⊢
  have hw8 : wt 44 (moF (fun _ => 0) 0 (fun _ _ => 0) (fun _ => 0) (fun _ => 0)) s9b := w9b
  have h8 : s9b[44]? = some (.inr (8, moO (fun _ => 0) 0)) := hw8.at 0 rfl
  have hN : s9b[45]? = some (.inl (0, 58, .inl (fun i => nI ((fun _ => 0 : Nat → Nat) i)))) := hw8.at 1 rfl
  refine t_X8_init_84 (t_X8_init_85 h8 rfl (t_X8_init_88 (Nat.le_of_ble_eq_true rfl) (Nat.le_of_ble_eq_true rfl) (Nat.le_of_ble_eq_true rfl) (sp_X8_begins hN (fun sw' hc' m' => ?_))))
  refine t_X8_init_91 (Nat.le_of_ble_eq_true rfl) ?_
  have w' : wt 44 (moF (fun _ => 0) 0 (upA (fun _ _ => 0) 0 (begF (fun _ => 0))) (fun _ => 0) (fun _ => 0)) sw' := hw8.put 1 m' hc'
  exact h1 sw' (m'.1.trans l9b) (q9b.tr ((low.same m').mono (by decide))) ⟨_, _, _, _, _, w', rfl, rfl, rfl, rfl, rfl, rfl, rfl, rfl, rfl, rfl, rfl⟩
end IN4
