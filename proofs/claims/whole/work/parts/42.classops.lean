/-! the class: texts, letters, lines, sights -/
section S7
variable {ε : gv_E} {d : Nat} {Qs : Option Value → List va_E → Prop} {sw : List va_E} {s dr i0 i1 : shT} {T : Nat → Nat} {n : Nat} {x : Nat → Int32} {K P W : Nat → Nat} {kn sk : Nat} {ln nu fl : Nat → Nat}
theorem sp_X3_accept (c : Nat) (hR : wt 1 (reF T n x) sw) (hn : n ≤ 120) (h0 : n = 120 → Qs (some (.int (nI 0))) sw) (h1 : n < 120 → ∀ sw', wt 1 (reF (fun i => if i = n then c else T i) (n + 1) x) sw' → same 1 2 sw sw' → Qs (some (.int (nI 1))) sw') : gv_S ε d m_X3_accept [.ref 1, .int (nI c)] sw Qs := by
  have h3 : sw[1]? = some (.inr (3, [.ref 2, .int (nI n), .int (x 0), .int (x 1), .int (x 2), .int (x 3)])) := hR.at 0 rfl
  have hT : sw[2]? = some (.inl (0, 120, .inl (fun i => nI (T i)))) := hR.at 1 rfl
  refine gv_S.go rfl ?_
  refine t_X3_accept_0 (t_X3_accept_1 h3 rfl (t_X3_accept_4 (t_X3_accept_6N (by omega) (by omega) (fun h => ?_) (fun h => ?_))))
  · refine t_X3_accept_11 (t_X3_accept_12 h3 rfl (t_X3_accept_15 (t_X3_accept_16 h3 rfl (t_X3_accept_19 (t_X3_accept_20 hT n h rfl (by decide) (?_))))))
    rw [nI_set]
    have w2 : wt 1 (reF (fun i => if i = n then c else T i) n x) _ := hR.set 1 (.inl (0, 120, .inl (fun i => nI (if i = n then c else T i)))) rfl
    have m2 : same 1 2 sw _ := same.set 2 (.inl (0, 120, .inl (fun i => nI (if i = n then c else T i)))) rfl
    generalize List.set sw _ _ = sw2 at w2 m2 ⊢
    have k3 : sw2[1]? = some (.inr (3, [.ref 2, .int (nI n), .int (x 0), .int (x 1), .int (x 2), .int (x 3)])) := w2.at 0 rfl
    refine t_X3_accept_21 (t_X3_accept_22 rfl (t_X3_accept_23 k3 rfl (t_X3_accept_26 (t_X3_accept_27N (t_X3_accept_28 k3 rfl (t_X3_accept_31 (t_X3_accept_32 rfl ?_)))))))
    exact h1 h _ (w2.set 0 _ rfl) (m2.tr (same.set 1 _ rfl))
  · refine t_X3_accept_9 (t_X3_accept_10 rfl ?_)
    exact h0 (by omega)
theorem sp_X7_type (y : Int32) (hC : clW s dr i0 i1 T n x K P W kn sk ln nu fl sw) (hn : n ≤ 120) (h0 : (∀ c, c ≤ 255 → y ≠ nI c) → Qs (some (.int (-1))) sw) (h1 : ∀ c, c ≤ 255 → y = nI c → n = 120 → Qs (some (.int (-3))) sw) (h2 : ∀ c, c ≤ 255 → y = nI c → n < 120 → ∀ sw', clW s dr i0 i1 (fun i => if i = n then c else T i) (n + 1) x K P W kn sk ln nu fl sw' → same 0 44 sw sw' → Qs (some (.int (nI (n + 1)))) sw') : gv_S ε (d + 1) m_X7_type [.ref 0, .int y] sw Qs := by
  have h7 := hC.h7
  have h3 := hC.h3
  refine gv_S.go rfl ?_
  refine t_X7_type_0 (t_X7_type_1 (fun h => ?_) (fun h => ?_))
  · refine t_X7_type_11 (t_X7_type_12 ?_)
    refine h0 (fun c hc e => ?_)
    rw [e] at h
    exact nI_pos (by omega) h
  · obtain ⟨c, hc, e⟩ := nI_of h
    subst e
    refine t_X7_type_4 (t_X7_type_5 (t_X7_type_8N (by omega) (by omega) (fun g => ?_) (fun g => ?_)))
    · refine t_X7_type_13 (t_X7_type_14 h7 rfl (t_X7_type_17 (t_X7_type_18 h3 (Nat.le_of_ble_eq_true rfl) (sp_X3_accept c hC.2.1 hn (fun q => ?_) (fun q sw1 w1 m1 => ?_)))))
      · refine t_X7_type_21 (fun _ => ?_) (fun h => absurd rfl h)
        refine t_X7_type_34 (t_X7_type_36 ?_)
        exact h1 c g rfl q
      · have hC1 := hC.re w1 m1
        have k7 := hC1.h7
        have k3 := hC1.h3
        refine t_X7_type_21 (fun h => absurd h (by decide)) (fun _ => ?_)
        refine t_X7_type_24 (t_X7_type_25 k7 rfl (t_X7_type_28 k3 rfl (t_X7_type_31 (t_X7_type_36 ?_))))
        exact h2 c g rfl q sw1 hC1 (m1.wide (by decide) (by decide))
    · refine t_X7_type_11 (t_X7_type_12 ?_)
      refine h0 (fun c' hc' e => ?_)
      have := nI_inj (by omega) (by omega) e
      omega
theorem sp_X7_clear (hC : clW s dr i0 i1 T n x K P W kn sk ln nu fl sw) (h1 : ∀ sw', clW s dr i0 i1 T (0) x K P W kn sk ln nu fl sw' → same 0 44 sw sw' → Qs (some (.int (nI n))) sw') : gv_S ε d m_X7_clear [.ref 0] sw Qs := by
  have h7 := hC.h7
  have h3 := hC.h3
  refine gv_S.go rfl ?_
  refine t_X7_clear_0 (t_X7_clear_1 h7 rfl (t_X7_clear_4 h3 rfl (t_X7_clear_7 (t_X7_clear_8 (t_X7_clear_9 h7 rfl (t_X7_clear_12 (t_X7_clear_13 h3 rfl (t_X7_clear_16 (t_X7_clear_17 ?_)))))))))
  exact h1 _ (hC.re (hC.2.1.set 0 _ rfl) (same.set 1 _ rfl)) (same.set 1 _ rfl)
theorem sp_X7_isColumnOfLetter (y z : Int32) (h1 : ∀ a c, a < 6 → c < 3 → y = nI a → z = nI c → Qs (some (.int (nI 1))) sw) (h0 : ¬ (∃ a c, a < 6 ∧ c < 3 ∧ y = nI a ∧ z = nI c) → Qs (some (.int (nI 0))) sw) : gv_S ε d m_X7_isColumnOfLetter [.int y, .int z] sw Qs := by
  refine gv_S.go rfl ?_
  refine t_X7_isColumnOfLetter_0 (t_X7_isColumnOfLetter_1 (fun h => ?_) (fun h => ?_))
  · refine t_X7_isColumnOfLetter_23 (t_X7_isColumnOfLetter_24 rfl (h0 (fun ⟨a, c, q1, q2, q3, q4⟩ => ?_)))
    rw [q3] at h
    exact nI_pos (by omega) h
  · obtain ⟨a, ha, e⟩ := nI_of h
    subst e
    refine t_X7_isColumnOfLetter_4 (t_X7_isColumnOfLetter_5 (t_X7_isColumnOfLetter_7N (by omega) (by omega) (fun g => ?_) (fun g => ?_)))
    · refine t_X7_isColumnOfLetter_23 (t_X7_isColumnOfLetter_24 rfl (h0 (fun ⟨a, c, q1, q2, q3, q4⟩ => ?_)))
      have := nI_inj (by omega) (by omega) q3
      omega
    · refine t_X7_isColumnOfLetter_10 (t_X7_isColumnOfLetter_11 (fun k => ?_) (fun k => ?_))
      · refine t_X7_isColumnOfLetter_23 (t_X7_isColumnOfLetter_24 rfl (h0 (fun ⟨a, c, q1, q2, q3, q4⟩ => ?_)))
        rw [q4] at k
        exact nI_pos (by omega) k
      · obtain ⟨c, hc, e⟩ := nI_of k
        subst e
        refine t_X7_isColumnOfLetter_14 (t_X7_isColumnOfLetter_15 (t_X7_isColumnOfLetter_16N (by omega) (by omega) (fun y => ?_) (fun y => ?_)))
        · refine t_X7_isColumnOfLetter_23 (t_X7_isColumnOfLetter_24 rfl (h0 (fun ⟨a, c, q1, q2, q3, q4⟩ => ?_)))
          have := nI_inj (by omega) (by omega) q4
          omega
        · refine t_X7_isColumnOfLetter_19 (t_X7_isColumnOfLetter_20 (t_X7_isColumnOfLetter_24 rfl ?_))
          exact h1 a c g y rfl rfl
theorem sp_X7_letter (y z : Int32) (hC : clW s dr i0 i1 T n x K P W kn sk ln nu fl sw) (h1 : ∀ a c, a < 6 → c < 3 → y = nI a → z = nI c → Qs (some (.int (nI (s.2.1 (3 * a + c))))) sw) (h0 : ¬ (∃ a c, a < 6 ∧ c < 3 ∧ y = nI a ∧ z = nI c) → Qs (some (.int (-1))) sw) : gv_S ε (d + 1) m_X7_letter [.ref 0, .int y, .int z] sw Qs := by
  have h7 := hC.h7
  have h4 := hC.h4
  have hA : sw[3 + 2]? = some (.inl (0, 18, .inl (fun i => nI (s.2.1 i)))) := hC.2.2.1.at 2 rfl
  refine gv_S.go rfl ?_
  refine t_X7_letter_0 (t_X7_letter_1 (t_X7_letter_2 (Nat.le_of_ble_eq_true rfl) (sp_X7_isColumnOfLetter y z (fun a c ha hc e1 e2 => ?_) (fun h => ?_))))
  · subst e1
    subst e2
    refine t_X7_letter_5 (fun h => absurd h (by decide)) (fun _ => ?_)
    refine t_X7_letter_8 (t_X7_letter_9 h7 rfl (t_X7_letter_12 h4 rfl (t_X7_letter_15 (t_X7_letter_16 (t_X7_letter_17N (t_X7_letter_18 (t_X7_letter_19N (t_X7_letter_20 hA (3 * a + c) (by omega) (by rw [Nat.mul_comm]) (by decide) (t_X7_letter_21 (t_X7_letter_25 ?_))))))))))
    exact h1 a c ha hc rfl rfl
  · refine t_X7_letter_5 (fun _ => ?_) (fun h => absurd rfl h)
    refine t_X7_letter_24 (t_X7_letter_25 ?_)
    exact h0 h
theorem sp_X7_line (y z : Int32) (hC : clW s dr i0 i1 T n x K P W kn sk ln nu fl sw) (ho : shOk s) (h1 : ∀ l, l < s.2.2.2.2 → y = nI l → z = -1 → Qs (some (.int (nI (s.2.2.1 l)))) sw) (h2 : ∀ l k, l < s.2.2.2.2 → k < s.2.2.1 l → y = nI l → z = nI k → Qs (some (.int (nI (s.2.2.2.1 (8 * l + k))))) sw) (h0 : (∀ l, l < s.2.2.2.2 → y = nI l → z ≠ -1 ∧ ∀ k, k < s.2.2.1 l → z ≠ nI k) → Qs (some (.int (-1))) sw) : gv_S ε (d + 1) m_X7_line [.ref 0, .int y, .int z] sw Qs := by
  have h7 := hC.h7
  have h4 := hC.h4
  have hln : sw[3 + 3]? = some (.inl (0, 4, .inl (fun i => nI (s.2.2.1 i)))) := hC.2.2.1.at 3 rfl
  have hsg : sw[3 + 4]? = some (.inl (0, 32, .inl (fun i => nI (s.2.2.2.1 i)))) := hC.2.2.1.at 4 rfl
  obtain ⟨o1, o2, o3, o4, o5, o6, o7⟩ := ho
  refine gv_S.go rfl ?_
  refine t_X7_line_0 (t_X7_line_1 h7 rfl (t_X7_line_4 (t_X7_line_5 h4 (Nat.le_of_ble_eq_true rfl) (sp_X4_hasLine y hC.2.2.1 o5 (fun l hl e => ?_) (fun h => ?_)))))
  · subst e
    have hlen := o6 l hl
    refine t_X7_line_8 (fun h => absurd h (by decide)) (fun _ => ?_)
    by_cases hz : z = -1
    · subst hz
      refine t_X7_line_11 (t_X7_line_12 (t_X7_line_13 (fun h => absurd h (by decide)) (fun _ => ?_)))
      refine t_X7_line_16 (t_X7_line_17 (t_X7_line_18 h7 rfl (t_X7_line_21 h4 rfl (t_X7_line_24 (t_X7_line_25 hln l (by omega) rfl (by decide) (t_X7_line_26 (fun g => ?_) (fun g => ?_)))))))
      · refine t_X7_line_31 (t_X7_line_32 (t_X7_line_33 (fun h => absurd rfl h) (fun _ => ?_)))
        refine t_X7_line_36 (t_X7_line_37 h7 rfl (t_X7_line_40 h4 rfl (t_X7_line_43 (t_X7_line_44 hln l (by omega) rfl (by decide) (t_X7_line_45 (t_X7_line_62 ?_))))))
        exact h1 l hl rfl rfl
      · refine absurd ?_ g
        rw [Int32.lt_iff_toInt_lt, nI_toInt (by omega)]
        have : (-1 : Int32).toInt = -1 := by decide
        omega
    · have a1 : (-1 : Int32).toInt = -1 := by decide
      have hz1 : z.toInt ≠ -1 := fun q => hz (Int32.toInt_inj.mp (by rw [q, a1]))
      refine t_X7_line_11 (t_X7_line_12 (t_X7_line_13 (fun h => ?_) (fun h => ?_)))
      · refine t_X7_line_29 (t_X7_line_30 ?_)
        refine h0 (fun l' hl' e => ⟨hz, fun k hk e2 => ?_⟩)
        have e3 := nI_inj (by omega) (by omega) e
        subst e3
        rw [e2, Int32.lt_iff_toInt_lt, nI_toInt (by omega), a1] at h
        omega
      · rw [Int32.lt_iff_toInt_lt, a1] at h
        obtain ⟨k, hk, e⟩ := nI_of (x := z) (fun q => by
          rw [Int32.lt_iff_toInt_lt, Int32.toInt_zero] at q
          omega)
        subst e
        refine t_X7_line_16 (t_X7_line_17 (t_X7_line_18 h7 rfl (t_X7_line_21 h4 rfl (t_X7_line_24 (t_X7_line_25 hln l (by omega) rfl (by decide) (t_X7_line_26N (by omega) (by omega) (fun g => ?_) (fun g => ?_)))))))
        · refine t_X7_line_31 (t_X7_line_32 (t_X7_line_33 (fun _ => ?_) (fun h => absurd h hz)))
          refine t_X7_line_48 (t_X7_line_49 h7 rfl (t_X7_line_52 h4 rfl (t_X7_line_55 (t_X7_line_56 (t_X7_line_58N (t_X7_line_59 (t_X7_line_60N (t_X7_line_61 hsg (8 * l + k) (by omega) (by rw [Nat.mul_comm]) (by decide) (t_X7_line_62 ?_)))))))))
          exact h2 l k hl g rfl rfl
        · refine t_X7_line_29 (t_X7_line_30 ?_)
          refine h0 (fun l' hl' e => ⟨hz, fun k' hk' e2 => ?_⟩)
          have e3 := nI_inj (by omega) (by omega) e
          subst e3
          have := nI_inj (by omega) (by omega) e2
          omega
  · refine t_X7_line_8 (fun _ => ?_) (fun h => absurd rfl h)
    refine t_X7_line_29 (t_X7_line_30 ?_)
    exact h0 (fun l hl e => absurd e (h l hl))
theorem sp_X7_dots (y z : Int32) (hC : clW s dr i0 i1 T n x K P W kn sk ln nu fl sw) (ho : shOk s) (h1 : ∀ l c, l < s.2.2.2.2 → c < 24 → y = nI l → z = nI c → Qs (some (.int (nI (inkN s l c)))) sw) (h0 : ¬ (∃ l c, l < s.2.2.2.2 ∧ c < 24 ∧ y = nI l ∧ z = nI c) → Qs (some (.int (-1))) sw) : gv_S ε (d + 2) m_X7_dots [.ref 0, .int y, .int z] sw Qs := by
  have h7 := hC.h7
  have h4 := hC.h4
  refine gv_S.go rfl ?_
  refine t_X7_dots_0 (t_X7_dots_1 h7 rfl (t_X7_dots_4 (t_X7_dots_5 h4 (Nat.le_of_ble_eq_true rfl) (sp_X4_hasLine y hC.2.2.1 ho.2.2.2.2.1 (fun l hl e => ?_) (fun h => ?_)))))
  · refine t_X7_dots_8 (fun h => absurd h (by decide)) (fun _ => ?_)
    refine t_X7_dots_11 (t_X7_dots_12 (Nat.le_of_ble_eq_true rfl) (sp_X7_isColumn z (fun c hc e2 => ?_) (fun h => ?_)))
    · subst e
      subst e2
      refine t_X7_dots_15 (fun h => absurd h (by decide)) (fun _ => ?_)
      refine t_X7_dots_18 (t_X7_dots_19 h7 rfl (t_X7_dots_22 (t_X7_dots_23 (t_X7_dots_24 h4 (Nat.le_of_ble_eq_true rfl) (sp_X4_inkAt l c hC.2.2.1 ho hl hc ?_)))))
      refine t_X7_dots_27 (t_X7_dots_31 ?_)
      exact h1 l c hl hc rfl rfl
    · refine t_X7_dots_15 (fun _ => ?_) (fun h => absurd rfl h)
      refine t_X7_dots_30 (t_X7_dots_31 ?_)
      exact h0 (fun ⟨l, c, _, q, _, q2⟩ => h c q q2)
  · refine t_X7_dots_8 (fun _ => ?_) (fun h => absurd rfl h)
    refine t_X7_dots_30 (t_X7_dots_31 ?_)
    exact h0 (fun ⟨l, c, q, _, q2, _⟩ => h l q q2)
theorem sp_X5_note (l m : Nat) (hR : wt 17 (siF sk ln nu) sw) (hn : sk ≤ 6) (h0 : sk = 6 → Qs (some (.int (nI 0))) sw) (h1 : sk < 6 → ∀ sw', wt 17 (siF (sk + 1) (fun i => if i = sk then l else ln i) (fun i => if i = sk then m else nu i)) sw' → same 17 3 sw sw' → Qs (some (.int (nI 1))) sw') : gv_S ε d m_X5_note [.ref 17, .int (nI l), .int (nI m)] sw Qs := by
  have h5 : sw[17]? = some (.inr (5, [.ref 18, .ref 19, .int (nI sk)])) := hR.at 0 rfl
  have hA : sw[18]? = some (.inl (0, 6, .inl (fun i => nI (ln i)))) := hR.at 1 rfl
  refine gv_S.go rfl ?_
  refine t_X5_note_0 (t_X5_note_1 h5 rfl (t_X5_note_4 (t_X5_note_6N (by omega) (by omega) (fun h => ?_) (fun h => ?_))))
  · refine t_X5_note_11 (t_X5_note_12 h5 rfl (t_X5_note_15 (t_X5_note_16 h5 rfl (t_X5_note_19 (t_X5_note_20 hA sk h rfl (by decide) (?_))))))
    rw [nI_set]
    have w2 : wt 17 (siF sk (fun i => if i = sk then l else ln i) nu) _ := hR.set 1 (.inl (0, 6, .inl (fun i => nI (if i = sk then l else ln i)))) rfl
    have m2 : same 17 3 sw _ := same.set 18 (.inl (0, 6, .inl (fun i => nI (if i = sk then l else ln i)))) rfl
    generalize List.set sw _ _ = sw2 at w2 m2 ⊢
    have k5 : sw2[17]? = some (.inr (5, [.ref 18, .ref 19, .int (nI sk)])) := w2.at 0 rfl
    have kB : sw2[19]? = some (.inl (0, 6, .inl (fun i => nI (nu i)))) := w2.at 2 rfl
    refine t_X5_note_21 (t_X5_note_22 k5 rfl (t_X5_note_25 (t_X5_note_26 k5 rfl (t_X5_note_29 (t_X5_note_30 kB sk h rfl (by decide) (?_))))))
    rw [nI_set]
    have w3 : wt 17 (siF sk (fun i => if i = sk then l else ln i) (fun i => if i = sk then m else nu i)) _ := w2.set 2 (.inl (0, 6, .inl (fun i => nI (if i = sk then m else nu i)))) rfl
    have m3 : same 17 3 sw2 _ := same.set 19 (.inl (0, 6, .inl (fun i => nI (if i = sk then m else nu i)))) rfl
    generalize List.set sw2 _ _ = sw3 at w3 m3 ⊢
    have j5 : sw3[17]? = some (.inr (5, [.ref 18, .ref 19, .int (nI sk)])) := w3.at 0 rfl
    refine t_X5_note_31 (t_X5_note_32 rfl (t_X5_note_33 j5 rfl (t_X5_note_36 (t_X5_note_37N (t_X5_note_38 j5 rfl (t_X5_note_41 (t_X5_note_42 rfl ?_)))))))
    exact h1 h _ (w3.set 0 _ rfl) ((m2.tr m3).tr (same.set 17 _ rfl))
  · refine t_X5_note_9 (t_X5_note_10 rfl ?_)
    exact h0 (by omega)
theorem sp_X7_sees (y z : Int32) (hC : clW s dr i0 i1 T n x K P W kn sk ln nu fl sw) (ho : shOk s) (hn : sk ≤ 6) (h0 : ¬ (∃ l m, l < s.2.2.2.2 ∧ m ≤ 192 ∧ y = nI l ∧ z = nI m) → Qs (some (.int (-1))) sw) (h1 : ∀ l m, l < s.2.2.2.2 → m ≤ 192 → y = nI l → z = nI m → sk = 6 → Qs (some (.int (-3))) sw) (h2 : ∀ l m, l < s.2.2.2.2 → m ≤ 192 → y = nI l → z = nI m → sk < 6 → ∀ sw', clW s dr i0 i1 T n x K P W kn (sk + 1) (fun i => if i = sk then l else ln i) (fun i => if i = sk then m else nu i) fl sw' → same 0 44 sw sw' → Qs (some (.int (nI (sk + 1)))) sw') : gv_S ε (d + 1) m_X7_sees [.ref 0, .int y, .int z] sw Qs := by
  have h7 := hC.h7
  have h4 := hC.h4
  have h5 := hC.h5
  refine gv_S.go rfl ?_
  refine t_X7_sees_0 (t_X7_sees_1 h7 rfl (t_X7_sees_4 (t_X7_sees_5 h4 (Nat.le_of_ble_eq_true rfl) (sp_X4_hasLine y hC.2.2.1 ho.2.2.2.2.1 (fun l hl e => ?_) (fun h => ?_)))))
  · subst e
    refine t_X7_sees_8 (fun h => absurd h (by decide)) (fun _ => ?_)
    refine t_X7_sees_11 (t_X7_sees_12 (fun h => ?_) (fun h => ?_))
    · refine t_X7_sees_22 (t_X7_sees_23 ?_)
      refine h0 (fun ⟨l, m, q1, q2, q3, q4⟩ => ?_)
      rw [q4] at h
      exact nI_pos (by omega) h
    · obtain ⟨m, hm, e⟩ := nI_of h
      subst e
      refine t_X7_sees_15 (t_X7_sees_16 (t_X7_sees_19N (by omega) (by omega) (fun g => ?_) (fun g => ?_)))
      · refine t_X7_sees_24 (t_X7_sees_25 h7 rfl (t_X7_sees_28 (t_X7_sees_29 (t_X7_sees_30 h5 (Nat.le_of_ble_eq_true rfl) (sp_X5_note l m hC.2.2.2.2.2.1 hn (fun q => ?_) (fun q sw1 w1 m1 => ?_))))))
        · refine t_X7_sees_33 (fun _ => ?_) (fun h => absurd rfl h)
          refine t_X7_sees_46 (t_X7_sees_48 ?_)
          exact h1 l m hl g rfl rfl q
        · have hC1 := hC.si w1 m1
          have k7 := hC1.h7
          have k5 := hC1.h5
          refine t_X7_sees_33 (fun h => absurd h (by decide)) (fun _ => ?_)
          refine t_X7_sees_36 (t_X7_sees_37 k7 rfl (t_X7_sees_40 k5 rfl (t_X7_sees_43 (t_X7_sees_48 ?_))))
          exact h2 l m hl g rfl rfl q sw1 hC1 (m1.wide (by decide) (by decide))
      · refine t_X7_sees_22 (t_X7_sees_23 ?_)
        refine h0 (fun ⟨l', m', q1, q2, q3, q4⟩ => ?_)
        have := nI_inj (by omega) (by omega) q4
        omega
  · refine t_X7_sees_8 (fun _ => ?_) (fun h => absurd rfl h)
    refine t_X7_sees_22 (t_X7_sees_23 ?_)
    exact h0 (fun ⟨l, c, q, _, q2, _⟩ => h l q q2)
theorem sp_X7_forget (hC : clW s dr i0 i1 T n x K P W kn sk ln nu fl sw) (h1 : ∀ sw', clW s dr i0 i1 T n x K P W kn (0) ln nu fl sw' → same 0 44 sw sw' → Qs (some (.int (nI sk))) sw') : gv_S ε d m_X7_forget [.ref 0] sw Qs := by
  have h7 := hC.h7
  have h5 := hC.h5
  refine gv_S.go rfl ?_
  refine t_X7_forget_0 (t_X7_forget_1 h7 rfl (t_X7_forget_4 h5 rfl (t_X7_forget_7 (t_X7_forget_8 (t_X7_forget_9 h7 rfl (t_X7_forget_12 (t_X7_forget_13 h5 rfl (t_X7_forget_16 (t_X7_forget_17 ?_)))))))))
  exact h1 _ (hC.si (hC.2.2.2.2.2.1.set 0 _ rfl) (same.set 17 _ rfl)) (same.set 17 _ rfl)
end S7
