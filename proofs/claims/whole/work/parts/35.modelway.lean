/-! the model's cells, its way -/
def moO (v : Nat → Int32) (ch : Int64) : List Value := [.ref 45, .int (v 0), .int (v 1), .ref 46, .ref 47, .ref 48, .int (v 2), .ref 49, .int (v 3), .int (v 4), .int (v 5), .ref 50, .int (v 6), .ref 51, .ref 52, .int (v 7), .long ch, .int (v 8), .ref 53, .ref 54]
def moF (v : Nat → Int32) (ch : Int64) (A : Nat → Nat → Nat) (lz hz : Nat → Int32) : List va_E := [.inr (8, moO v ch), .inl (0, 58, .inl (fun i => nI (A 0 i))), .inl (0, 580, .inl (fun i => nI (A 1 i))), .inl (1, 2, .inl (fun i => nI (A 2 i))), .inl (0, 116, .inl (fun i => nI (A 3 i))), .inl (0, 120, .inl (fun i => nI (A 4 i))), .inl (0, 58, .inl (fun i => nI (A 5 i))), .inl (0, 96, .inl lz), .inl (0, 96, .inl hz), .inl (0, 6, .inl (fun i => nI (A 6 i))), .inl (0, 6, .inl (fun i => nI (A 7 i)))]
theorem moF.qm {v : Nat → Int32} {ch : Int64} {A : Nat → Nat → Nat} {lz hz : Nat → Int32} {sw : List va_E} (h : wt 44 (moF v ch A lz hz) sw) : qm (A 0) sw := ⟨moO v ch, h.at 0 rfl, rfl, h.at 1 rfl⟩
noncomputable def npR (r : Nat → Nat) : Nat → Nat := fun l => if l < r 21 then npN (inkR r l) (r 1) 8 else 0
noncomputable def loR (r : Nat → Nat) : Nat → Nat → Int := fun l p => loZ (inkR r l) (r 1) (r 0) p 192
noncomputable def hiR (r : Nat → Nat) : Nat → Nat → Int := fun l p => hiZ (inkR r l) (r 1) (r 0) p 192
theorem npR_le {r : Nat → Nat} (h : roOk r) (l : Nat) : npR r l ≤ 10 := by
  unfold npR
  have := npN_le (J := inkR r l) (r := r 1) 8
  have := h.2.1
  split <;> omega
theorem lN0 : lN 0 = 0 := by decide
theorem lN1 : lN 1 = 1 := by decide
theorem cmpL {a b : Nat} (ha : a < 2 ^ 62) (hb : b < 2 ^ 62) : 0 < lg_cmp (lN a) (lN b) ↔ b < a := by
  unfold lg_cmp
  have h1 := pk_lLT (a := b) (b := a) (by omega) (by omega)
  have h2 := pk_lEQ (a := a) (b := b) (by omega) (by omega)
  by_cases q : b < a
  · rw [if_pos (h1.mpr q)]
    exact ⟨fun _ => q, fun _ => by decide⟩
  · rw [if_neg (fun z => q (h1.mp z))]
    by_cases y : a = b
    · rw [if_pos (h2.mpr y)]
      exact ⟨fun z => absurd z (by decide), fun z => absurd z q⟩
    · rw [if_neg (fun z => y (h2.mp z))]
      exact ⟨fun z => absurd z (by decide), fun z => absurd z q⟩
section S8
variable {ε : gv_E} {d : Nat} {Qs : Option Value → List va_E → Prop} {sw : List va_E} {r : Nat → Nat}
theorem sp_X8_lowOf (l p : Nat) (hm : qm r sw) (hr : roOk r) (hl : l < 4) (hp : p < 1000) (hq : Qs (some (.int (zI (loR r l p)))) sw) : gv_S ε (d + 3) m_X8_lowOf [.ref 44, .int (nI l), .int (nI p)] sw Qs := by
  obtain ⟨fs, h8, hf, hN⟩ := id hm
  have hr0 := hr.1
  have inner : ∀ (n c k : Nat), c + n = 24 → k < 8 → gv_M ε (d + 3) m_X8_lowOf sw.length Qs 74 [some (.ref 44), some (.int (nI l)), some (.int (nI p)), some (.int (zI (loZ (inkR r l) (r 1) (r 0) p (24 * (k + 1))))), some (.int (nI k)), some (.int (nI (bitsN (layB (inkR r l) (r 1) k p) 24))), some (.int (nI 24))] [] sw 0 0 → gv_M ε (d + 3) m_X8_lowOf sw.length Qs 26 [some (.ref 44), some (.int (nI l)), some (.int (nI p)), some (.int (zI (loZ (inkR r l) (r 1) (r 0) p (24 * k + c)))), some (.int (nI k)), some (.int (nI (bitsN (layB (inkR r l) (r 1) k p) 24))), some (.int (nI c))] [] sw 0 0 := by
    intro n
    induction n with
    | zero =>
      intro c k hc hk kk
      refine t_X8_lowOf_26 (t_X8_lowOf_28 (t_X8_lowOf_30N (by omega) (by omega) (fun h => ?_) (fun h => absurd h (by omega))))
      have e : c = 24 := by omega
      subst e
      exact kk
    | succ n ih =>
      intro c k hc hk kk
      have e1 : (24 * k + c) / 24 = k := by omega
      have e2 : (24 * k + c) % 24 = c := by omega
      have hb := bitsN_lt (layB (inkR r l) (r 1) k p) 24
      have bl := loZ_bd (J := inkR r l) (r := r 1) (p := p) hr0 (24 * k + c)
      have bh := hdZ_bd (st := r 0) (k := k) hr0 (c := c) (by omega)
      have hs : loZ (inkR r l) (r 1) (r 0) p (24 * k + c + 1) = if layB (inkR r l) (r 1) k p c = true ∧ hdZ (r 0) k c < loZ (inkR r l) (r 1) (r 0) p (24 * k + c) then hdZ (r 0) k c else loZ (inkR r l) (r 1) (r 0) p (24 * k + c) := by
        rw [loZ, e1, e2]
      have go := ih (c + 1) k (by omega) hk kk
      rw [← Nat.add_assoc, hs] at go
      refine t_X8_lowOf_26 (t_X8_lowOf_28 (t_X8_lowOf_30N (by omega) (by omega) (fun h => absurd h (by omega)) (fun h => ?_)))
      refine t_X8_lowOf_33 (t_X8_lowOf_35 (t_X8_lowOf_37 (Nat.le_of_ble_eq_true rfl) (sp_X8_has _ c (by omega) (by omega) ?_)))
      rw [bitsN_dm _ h]
      by_cases q : layB (inkR r l) (r 1) k p c = true
      · rw [if_pos q]
        refine t_X8_lowOf_40 (fun h => absurd h (by decide)) (fun _ => ?_)
        refine t_X8_lowOf_43 (t_X8_lowOf_44 (t_X8_lowOf_46 (t_X8_lowOf_48 h8 (Nat.le_of_ble_eq_true rfl) (sp_X8_headAt k c hm hk h ?_))))
        rw [headR_z hr0 h]
        refine t_X8_lowOf_51 (t_X8_lowOf_52 (fun z => ?_) (fun z => ?_))
        · rw [zI_le (by omega) (by omega)] at z
          rw [if_neg (fun y => by omega)] at go
          refine t_X8_lowOf_66 (t_X8_lowOf_67 (t_X8_lowOf_68N (t_X8_lowOf_71 (?_))))
          exact go
        · rw [zI_le (by omega) (by omega)] at z
          rw [if_pos ⟨q, by omega⟩] at go
          refine t_X8_lowOf_55 (t_X8_lowOf_56 (t_X8_lowOf_58 (t_X8_lowOf_60 h8 (Nat.le_of_ble_eq_true rfl) (sp_X8_headAt k c hm hk h ?_))))
          rw [headR_z hr0 h]
          refine t_X8_lowOf_63 (t_X8_lowOf_67 (t_X8_lowOf_68N (t_X8_lowOf_71 (?_))))
          exact go
      · rw [if_neg q]
        rw [if_neg (fun y => q y.1)] at go
        refine t_X8_lowOf_40 (fun _ => ?_) (fun h => absurd rfl h)
        refine t_X8_lowOf_66 (t_X8_lowOf_67 (t_X8_lowOf_68N (t_X8_lowOf_71 (?_))))
        exact go
  have outer : ∀ (n k : Nat) (a5 a6 : Option Value), k + n = 8 → gv_M ε (d + 3) m_X8_lowOf sw.length Qs 6 [some (.ref 44), some (.int (nI l)), some (.int (nI p)), some (.int (zI (loZ (inkR r l) (r 1) (r 0) p (24 * k)))), some (.int (nI k)), a5, a6] [] sw 0 0 := by
    intro n
    induction n with
    | zero =>
      intro k a5 a6 hk
      refine t_X8_lowOf_6 (t_X8_lowOf_8 (t_X8_lowOf_10N (by omega) (by omega) (fun h => ?_) (fun h => absurd h (by omega))))
      refine t_X8_lowOf_80 (t_X8_lowOf_81 ?_)
      rw [show k = 8 by omega]
      exact hq
    | succ n ih =>
      intro k a5 a6 hk
      refine t_X8_lowOf_6 (t_X8_lowOf_8 (t_X8_lowOf_10N (by omega) (by omega) (fun h => absurd h (by omega)) (fun h => ?_)))
      refine t_X8_lowOf_13 (t_X8_lowOf_14 (t_X8_lowOf_15 (t_X8_lowOf_17 (t_X8_lowOf_18 h8 (Nat.le_of_ble_eq_true rfl) (sp_X8_columnsIn l k p hm hr hl h hp ?_)))))
      refine t_X8_lowOf_21 (t_X8_lowOf_23 (t_X8_lowOf_24 (?_)))
      refine inner 24 0 k (by decide) h ?_
      refine t_X8_lowOf_74N (t_X8_lowOf_77 (?_))
      exact ih (k + 1) _ _ (by omega)
  refine gv_S.go rfl ?_
  refine t_X8_lowOf_0 (t_X8_lowOf_2 (t_X8_lowOf_3 (t_X8_lowOf_4 (?_))))
  rw [zI_nI (by decide : 24 ≤ 1000000)]
  exact outer 8 0 _ _ (by decide)
theorem sp_X8_highOf (l p : Nat) (hm : qm r sw) (hr : roOk r) (hl : l < 4) (hp : p < 1000) (hq : Qs (some (.int (zI (hiR r l p)))) sw) : gv_S ε (d + 3) m_X8_highOf [.ref 44, .int (nI l), .int (nI p)] sw Qs := by
  obtain ⟨fs, h8, hf, hN⟩ := id hm
  have hr0 := hr.1
  have inner : ∀ (n c k : Nat), c + n = 24 → k < 8 → gv_M ε (d + 3) m_X8_highOf sw.length Qs 74 [some (.ref 44), some (.int (nI l)), some (.int (nI p)), some (.int (zI (hiZ (inkR r l) (r 1) (r 0) p (24 * (k + 1))))), some (.int (nI k)), some (.int (nI (bitsN (layB (inkR r l) (r 1) k p) 24))), some (.int (nI 24))] [] sw 0 0 → gv_M ε (d + 3) m_X8_highOf sw.length Qs 26 [some (.ref 44), some (.int (nI l)), some (.int (nI p)), some (.int (zI (hiZ (inkR r l) (r 1) (r 0) p (24 * k + c)))), some (.int (nI k)), some (.int (nI (bitsN (layB (inkR r l) (r 1) k p) 24))), some (.int (nI c))] [] sw 0 0 := by
    intro n
    induction n with
    | zero =>
      intro c k hc hk kk
      refine t_X8_highOf_26 (t_X8_highOf_28 (t_X8_highOf_30N (by omega) (by omega) (fun h => ?_) (fun h => absurd h (by omega))))
      have e : c = 24 := by omega
      subst e
      exact kk
    | succ n ih =>
      intro c k hc hk kk
      have e1 : (24 * k + c) / 24 = k := by omega
      have e2 : (24 * k + c) % 24 = c := by omega
      have hb := bitsN_lt (layB (inkR r l) (r 1) k p) 24
      have bl := hiZ_bd (J := inkR r l) (r := r 1) (p := p) hr0 (24 * k + c)
      have bh := hdZ_bd (st := r 0) (k := k) hr0 (c := c) (by omega)
      have hs : hiZ (inkR r l) (r 1) (r 0) p (24 * k + c + 1) = if layB (inkR r l) (r 1) k p c = true ∧ hiZ (inkR r l) (r 1) (r 0) p (24 * k + c) < hdZ (r 0) k c then hdZ (r 0) k c else hiZ (inkR r l) (r 1) (r 0) p (24 * k + c) := by
        rw [hiZ, e1, e2]
      have go := ih (c + 1) k (by omega) hk kk
      rw [← Nat.add_assoc, hs] at go
      refine t_X8_highOf_26 (t_X8_highOf_28 (t_X8_highOf_30N (by omega) (by omega) (fun h => absurd h (by omega)) (fun h => ?_)))
      refine t_X8_highOf_33 (t_X8_highOf_35 (t_X8_highOf_37 (Nat.le_of_ble_eq_true rfl) (sp_X8_has _ c (by omega) (by omega) ?_)))
      rw [bitsN_dm _ h]
      by_cases q : layB (inkR r l) (r 1) k p c = true
      · rw [if_pos q]
        refine t_X8_highOf_40 (fun h => absurd h (by decide)) (fun _ => ?_)
        refine t_X8_highOf_43 (t_X8_highOf_44 (t_X8_highOf_46 (t_X8_highOf_48 h8 (Nat.le_of_ble_eq_true rfl) (sp_X8_headAt k c hm hk h ?_))))
        rw [headR_z hr0 h]
        refine t_X8_highOf_51 (t_X8_highOf_52 (fun z => ?_) (fun z => ?_))
        · rw [zI_le (by omega) (by omega)] at z
          rw [if_neg (fun y => by omega)] at go
          refine t_X8_highOf_66 (t_X8_highOf_67 (t_X8_highOf_68N (t_X8_highOf_71 (?_))))
          exact go
        · rw [zI_le (by omega) (by omega)] at z
          rw [if_pos ⟨q, by omega⟩] at go
          refine t_X8_highOf_55 (t_X8_highOf_56 (t_X8_highOf_58 (t_X8_highOf_60 h8 (Nat.le_of_ble_eq_true rfl) (sp_X8_headAt k c hm hk h ?_))))
          rw [headR_z hr0 h]
          refine t_X8_highOf_63 (t_X8_highOf_67 (t_X8_highOf_68N (t_X8_highOf_71 (?_))))
          exact go
      · rw [if_neg q]
        rw [if_neg (fun y => q y.1)] at go
        refine t_X8_highOf_40 (fun _ => ?_) (fun h => absurd rfl h)
        refine t_X8_highOf_66 (t_X8_highOf_67 (t_X8_highOf_68N (t_X8_highOf_71 (?_))))
        exact go
  have outer : ∀ (n k : Nat) (a5 a6 : Option Value), k + n = 8 → gv_M ε (d + 3) m_X8_highOf sw.length Qs 6 [some (.ref 44), some (.int (nI l)), some (.int (nI p)), some (.int (zI (hiZ (inkR r l) (r 1) (r 0) p (24 * k)))), some (.int (nI k)), a5, a6] [] sw 0 0 := by
    intro n
    induction n with
    | zero =>
      intro k a5 a6 hk
      refine t_X8_highOf_6 (t_X8_highOf_8 (t_X8_highOf_10N (by omega) (by omega) (fun h => ?_) (fun h => absurd h (by omega))))
      refine t_X8_highOf_80 (t_X8_highOf_81 ?_)
      rw [show k = 8 by omega]
      exact hq
    | succ n ih =>
      intro k a5 a6 hk
      refine t_X8_highOf_6 (t_X8_highOf_8 (t_X8_highOf_10N (by omega) (by omega) (fun h => absurd h (by omega)) (fun h => ?_)))
      refine t_X8_highOf_13 (t_X8_highOf_14 (t_X8_highOf_15 (t_X8_highOf_17 (t_X8_highOf_18 h8 (Nat.le_of_ble_eq_true rfl) (sp_X8_columnsIn l k p hm hr hl h hp ?_)))))
      refine t_X8_highOf_21 (t_X8_highOf_23 (t_X8_highOf_24 (?_)))
      refine inner 24 0 k (by decide) h ?_
      refine t_X8_highOf_74N (t_X8_highOf_77 (?_))
      exact ih (k + 1) _ _ (by omega)
  refine gv_S.go rfl ?_
  refine t_X8_highOf_0 (t_X8_highOf_2 (t_X8_highOf_3 (t_X8_highOf_4 (?_))))
  rw [zI_m24]
  exact outer 8 0 _ _ (by decide)
theorem sp_X8_span (x y z : Int32) (hm : qm r sw) (hr : roOk r) (h1 : ∀ l p w, l < r 21 → p < npN (inkR r l) (r 1) 8 → w ≤ 1 → x = nI l → y = nI p → z = nI w → Qs (some (.int (zI (if w = 0 then loR r l p else hiR r l p)))) sw) (h0 : ¬ (∃ l p w, l < r 21 ∧ p < npN (inkR r l) (r 1) 8 ∧ w ≤ 1 ∧ x = nI l ∧ y = nI p ∧ z = nI w) → Qs (some (.int (-1000000))) sw) : gv_S ε (d + 4) m_X8_span [.ref 44, .int x, .int y, .int z] sw Qs := by
  obtain ⟨fs, h8, hf, hN⟩ := id hm
  have hn := hr.2.2.2.2.1
  have hr1 := hr.2.1
  refine gv_S.go rfl ?_
  refine t_X8_span_0 (t_X8_span_1 (t_X8_span_2 h8 (Nat.le_of_ble_eq_true rfl) (sp_X8_isLine x hm hn (fun l hl e => ?_) (fun h => ?_))))
  · subst e
    have hnp := npN_le (J := inkR r l) (r := r 1) 8
    refine t_X8_span_5 (fun h => absurd h (by decide)) (fun _ => ?_)
    refine t_X8_span_8 (t_X8_span_9 (t_X8_span_10 (t_X8_span_11 (Nat.le_of_ble_eq_true rfl) (sp_X8_inN z 1 (by decide) (fun w hw ew => ?_) (fun h => ?_)))))
    · subst ew
      refine t_X8_span_14 (fun h => absurd h (by decide)) (fun _ => ?_)
      refine t_X8_span_17 (t_X8_span_18 (t_X8_span_19 (t_X8_span_20 (t_X8_span_21 h8 (Nat.le_of_ble_eq_true rfl) (sp_X8_passesOf l hm hr (by omega) ?_)))))
      have yes : ∀ p, p < npN (inkR r l) (r 1) 8 → y = nI p → gv_M ε (d + 4) m_X8_span sw.length Qs 29 [some (.ref 44), some (.int (nI l)), some (.int y), some (.int (nI w))] [.int (nI 1)] sw 0 0 := by
        intro p hp e
        subst e
        have fin := h1 l p w hl hp hw rfl rfl rfl
        refine t_X8_span_29 (fun _ => ?_) (fun h => absurd h (by decide))
        refine t_X8_span_35 (t_X8_span_36N (by omega) (fun q => ?_) (fun q => ?_))
        · rw [if_neg (by omega)] at fin
          refine t_X8_span_48 (t_X8_span_49 (t_X8_span_50 (t_X8_span_51 h8 (Nat.le_of_ble_eq_true rfl) (sp_X8_highOf l p hm hr (by omega) (by omega) ?_))))
          refine t_X8_span_54 ?_
          exact fin
        · rw [if_pos q] at fin
          refine t_X8_span_39 (t_X8_span_40 (t_X8_span_41 (t_X8_span_42 h8 (Nat.le_of_ble_eq_true rfl) (sp_X8_lowOf l p hm hr (by omega) (by omega) ?_))))
          refine t_X8_span_45 (t_X8_span_54 ?_)
          exact fin
      have no : (∀ p, p < npN (inkR r l) (r 1) 8 → y ≠ nI p) → gv_M ε (d + 4) m_X8_span sw.length Qs 29 [some (.ref 44), some (.int (nI l)), some (.int y), some (.int (nI w))] [.int (nI 0)] sw 0 0 := by
        intro h
        refine t_X8_span_29 (fun h => absurd rfl h) (fun _ => ?_)
        refine t_X8_span_32 (t_X8_span_34 ?_)
        refine h0 (fun ⟨l', p, _, q0, q, _, q1, q2, _⟩ => ?_)
        have e1 : l = l' := nI_inj (by omega) (by omega) q1
        subst e1
        exact h p q q2
      by_cases z0 : npN (inkR r l) (r 1) 8 = 0
      · rw [z0]
        rw [z0] at no
        refine t_X8_span_24 (t_X8_span_25 (t_X8_span_26 (Nat.le_of_ble_eq_true rfl) (sp_X8_in y _ _ (fun g1 g2 => ?_) (fun g => ?_))))
        · exfalso
          rw [Int32.le_iff_toInt_le] at g1 g2
          have a1 : (nI 0 - nI 1).toInt = -1 := by decide
          have a2 : (nI 0).toInt = 0 := by decide
          omega
        · exact no (fun p hp => absurd hp (by omega))
      · refine t_X8_span_24 (t_X8_span_25N (by omega) (t_X8_span_26 (Nat.le_of_ble_eq_true rfl) (sp_X8_inN y (npN (inkR r l) (r 1) 8 - 1) (by omega) (fun p hp e => ?_) (fun h => ?_))))
        · exact yes p (by omega) e
        · exact no (fun p hp => h p (by omega))
    · refine t_X8_span_14 (fun _ => ?_) (fun h => absurd rfl h)
      refine t_X8_span_32 (t_X8_span_34 ?_)
      exact h0 (fun ⟨_, _, w, _, _, q, _, _, q2⟩ => h w q q2)
  · refine t_X8_span_5 (fun _ => ?_) (fun h => absurd rfl h)
    refine t_X8_span_32 (t_X8_span_34 ?_)
    exact h0 (fun ⟨l, _, _, q, _, _, q2, _, _⟩ => h l q q2)
theorem sp_X8_far (x y : Int) (hx : -1000 ≤ x ∧ x ≤ 1000) (hy : -1000 ≤ y ∧ y ≤ 1000) (hq : Qs (some (.int (zI (dst x y)))) sw) : gv_S ε d m_X8_far [.int (zI x), .int (zI y)] sw Qs := by
  refine gv_S.go rfl ?_
  unfold dst at hq
  refine t_X8_far_0 (t_X8_far_1 (t_X8_far_2 (fun h => ?_) (fun h => ?_)))
  · rw [zI_le (by omega) (by omega)] at h
    refine t_X8_far_11 (t_X8_far_12 (t_X8_far_13 (t_X8_far_14 ?_)))
    rw [zI_sub]
    by_cases q : x ≤ y
    · rw [if_pos q] at hq
      rw [show x - y = y - x by omega]
      exact hq
    · rw [if_neg q] at hq
      exact hq
  · rw [zI_le (by omega) (by omega)] at h
    refine t_X8_far_5 (t_X8_far_6 (t_X8_far_7 (t_X8_far_8 (t_X8_far_14 ?_))))
    rw [zI_sub]
    rw [if_pos (by omega)] at hq
    exact hq
end S8
