/-! span, goes, way of the class -/
section S7
variable {ε : gv_E} {d : Nat} {Qs : Option Value → List va_E → Prop} {sw : List va_E} {s : shT}
theorem sp_X7_span (x y z : Int32) (hc : cls s sw) (hs : scr sw) (h1 : ∀ l p w, l < s.2.2.2.2 → p < npN (inkN s l) (s.1 1) 8 → w ≤ 1 → x = nI l → y = nI p → z = nI w → ∀ sw', scr sw' → same 22 12 sw sw' → Qs (some (.int (zI (if w = 0 then loS s l p else hiS s l p)))) sw') (h0 : ¬ (∃ l p w, l < s.2.2.2.2 ∧ p < npN (inkN s l) (s.1 1) 8 ∧ w ≤ 1 ∧ x = nI l ∧ y = nI p ∧ z = nI w) → ∀ sw', scr sw' → same 22 12 sw sw' → Qs (some (.int (-1000000))) sw') : gv_S ε (d + 4) m_X7_span [.ref 0, .int x, .int y, .int z] sw Qs := by
  obtain ⟨J0, A0, lt0, am0, lf0, rg0, tn, al, ar, a, b, c, hs1, hs2, hs3⟩ := hs.ex
  have h7 : sw[0]? = some (.inr (7, [.ref 1, .ref 3, .ref 8, .ref 13, .ref 17, .ref 20, .ref 21, .ref 22, .ref 24, .ref 27])) := hc.1.at 0 rfl
  have h4 : sw[3]? = some (.inr (4, [.ref (3 + 1), .ref (3 + 2), .ref (3 + 3), .ref (3 + 4), .int (nI s.2.2.2.2)])) := hc.2.1.at 0 rfl
  have k0 : sw[27]? = some (.inr (0, [.ref 28, .ref 29, .ref 30, .ref 31, .ref 32, .ref 33, .int a, .int b, .int c])) := hs3.at 0 rfl
  have hlines := hc.2.2.2.2.2.2.1
  have hr := hc.2.2.2.1
  refine gv_S.go rfl ?_
  refine t_X7_span_0 (t_X7_span_1 h7 rfl (t_X7_span_4 (t_X7_span_5 h4 (Nat.le_of_ble_eq_true rfl) (sp_X4_hasLine x hc.2.1 hlines (fun l hl e => ?_) (fun h => ?_)))))
  · subst e
    refine t_X7_span_8 (fun h => absurd h (by decide)) (fun _ => ?_)
    refine t_X7_span_11 (t_X7_span_12 (fun h => ?_) (fun h => ?_))
    · refine t_X7_span_24 (t_X7_span_26 ?_)
      refine h0 (fun ⟨_, p, _, _, q, _, _, q2, _⟩ => ?_) sw hs same.rf
      rw [q2] at h
      have := npN_le (J := inkN s l) (r := s.1 1) 8
      rename_i l' _ _ _ _ _
      have := npN_le (J := inkN s l') (r := s.1 1) 8
      exact nI_pos (by omega) h
    · obtain ⟨p, hp, rfl⟩ := nI_of h
      refine t_X7_span_15 (t_X7_span_16 (fun g => ?_) (fun g => ?_))
      · refine t_X7_span_24 (t_X7_span_26 ?_)
        refine h0 (fun ⟨_, _, w, _, _, q, _, _, q2⟩ => ?_) sw hs same.rf
        rw [q2] at g
        exact nI_pos (by omega) g
      · refine t_X7_span_19 (t_X7_span_20 (t_X7_span_21 (fun g2 => ?_) (fun g2 => ?_)))
        · obtain ⟨w, hw, ew⟩ : ∃ w, w ≤ 1 ∧ z = nI w := by
            obtain ⟨j, hj, e⟩ := nI_of g
            subst e
            exact ⟨j, (nI_leI hj (by decide)).mp g2, rfl⟩
          subst ew
          have hnp := npN_le (J := inkN s l) (r := s.1 1) 8
          refine t_X7_span_27 (t_X7_span_28 h7 rfl (t_X7_span_31 (t_X7_span_32 (t_X7_span_33 h7 rfl (t_X7_span_36 (t_X7_span_37 h7 rfl (t_X7_span_40 (t_X7_span_41 h7 rfl (t_X7_span_44 k0 (Nat.le_of_ble_eq_true rfl) (sp_X0_measure l hc hs1 hs2 hs3 hl (fun J A lt am lf rg sw1 q1 q2 q3 q4 q5 v1 v2 v3 hsm => ?_)))))))))))
          have hsc := scr.mk v1 v2 v3
          have hc1 := hc.keep hsm
          have j7 : sw1[0]? = some (.inr (7, [.ref 1, .ref 3, .ref 8, .ref 13, .ref 17, .ref 20, .ref 21, .ref 22, .ref 24, .ref 27])) := hc1.1.at 0 rfl
          have j0 : sw1[27]? = some (.inr (0, [.ref 28, .ref 29, .ref 30, .ref 31, .ref 32, .ref 33, .int a, .int b, .int c])) := v3.at 0 rfl
          have jL : sw1[29]? = some (.inl (0, 40, .inl lf)) := v3.at 2 rfl
          have jR : sw1[30]? = some (.inl (0, 40, .inl rg)) := v3.at 3 rfl
          refine t_X7_span_47 (t_X7_span_48 j7 rfl (t_X7_span_51 (t_X7_span_52 (t_X7_span_53 j0 (Nat.le_of_ble_eq_true rfl) (sp_X0_slot l p _ v3 q1 (by omega) (by omega) hp ?_)))))
          by_cases hlt : p < npN (inkN s l) (s.1 1) 8
          · rw [if_pos hlt]
            have fin := h1 l p w hl hlt hw rfl rfl rfl sw1 hsc hsm
            refine t_X7_span_56 (t_X7_span_58 (t_X7_span_60N (by omega) ?_))
            refine t_X7_span_66 (t_X7_span_67N (by omega) (fun y => ?_) (fun y => ?_))
            · refine t_X7_span_83 (t_X7_span_84 j7 rfl (t_X7_span_87 j0 rfl (t_X7_span_90 (t_X7_span_92 jR (10 * l + p) (by omega) rfl (by decide) (t_X7_span_93 ?_)))))
              rw [q4 p (by omega)]
              rw [if_neg (by omega)] at fin
              exact fin
            · refine t_X7_span_70 (t_X7_span_71 j7 rfl (t_X7_span_74 j0 rfl (t_X7_span_77 (t_X7_span_79 jL (10 * l + p) (by omega) rfl (by decide) (t_X7_span_80 (t_X7_span_93 ?_))))))
              rw [q3 p (by omega)]
              rw [if_pos y] at fin
              exact fin
          · rw [if_neg hlt]
            refine t_X7_span_56 (t_X7_span_58 (t_X7_span_60 (fun y => absurd y (by decide)) (fun _ => ?_)))
            refine t_X7_span_63 (t_X7_span_65 ?_)
            refine h0 (fun ⟨l', p', w', a1, a2, a3, a4, a5, a6⟩ => ?_) sw1 hsc hsm
            have e1 : l = l' := nI_inj (by omega) (by omega) a4
            subst e1
            have e2 : p = p' := nI_inj (by omega) (by omega) a5
            omega
        · refine t_X7_span_24 (t_X7_span_26 ?_)
          refine h0 (fun ⟨_, _, w, _, _, q, _, _, q2⟩ => g2 ?_) sw hs same.rf
          rw [q2]
          exact nI_le q (by decide)
  · refine t_X7_span_8 (fun _ => ?_) (fun h => absurd rfl h)
    refine t_X7_span_24 (t_X7_span_26 ?_)
    exact h0 (fun ⟨l, _, _, q, _, _, q2, _, _⟩ => h l q q2) sw hs same.rf
theorem sp_X7_goes (x y : Int32) (hc : cls s sw) (hs : scr sw) (h1 : ∀ l p, l < s.2.2.2.2 → p < 2 ^ 31 → x = nI l → y = nI p → ∀ sw', scr sw' → same 22 12 sw sw' → Qs (some (.int (if p < npS s l then nI (trnI (npS s) (loS s) (hiS s) (sumN (npS s) l + p)) else -9))) sw') (h0 : ¬ (∃ l p, l < s.2.2.2.2 ∧ p < 2 ^ 31 ∧ x = nI l ∧ y = nI p) → Qs (some (.int (-1))) sw) : gv_S ε (d + 5) m_X7_goes [.ref 0, .int x, .int y] sw Qs := by
  obtain ⟨J0, A0, lt0, am0, lf0, rg0, tn, al, ar, a, b, c, hs1, hs2, hs3⟩ := hs.ex
  have h7 : sw[0]? = some (.inr (7, [.ref 1, .ref 3, .ref 8, .ref 13, .ref 17, .ref 20, .ref 21, .ref 22, .ref 24, .ref 27])) := hc.1.at 0 rfl
  have h4 : sw[3]? = some (.inr (4, [.ref (3 + 1), .ref (3 + 2), .ref (3 + 3), .ref (3 + 4), .int (nI s.2.2.2.2)])) := hc.2.1.at 0 rfl
  have k0 : sw[27]? = some (.inr (0, [.ref 28, .ref 29, .ref 30, .ref 31, .ref 32, .ref 33, .int a, .int b, .int c])) := hs3.at 0 rfl
  have hlines := hc.2.2.2.2.2.2.1
  refine gv_S.go rfl ?_
  refine t_X7_goes_0 (t_X7_goes_1 h7 rfl (t_X7_goes_4 (t_X7_goes_5 h4 (Nat.le_of_ble_eq_true rfl) (sp_X4_hasLine x hc.2.1 hlines (fun l hl e => ?_) (fun h => ?_)))))
  · subst e
    refine t_X7_goes_8 (fun h => absurd h (by decide)) (fun _ => ?_)
    refine t_X7_goes_11 (t_X7_goes_12 (fun h => ?_) (fun h => ?_))
    · obtain ⟨p, hp, rfl⟩ := nI_of (x := y) (fun q => by
        rw [Int32.le_iff_toInt_le] at h
        rw [Int32.lt_iff_toInt_lt] at q
        omega)
      have hnp := npS_le hc.2.2 l
      refine t_X7_goes_17 (t_X7_goes_18 h7 rfl (t_X7_goes_21 (t_X7_goes_22 h7 rfl (t_X7_goes_25 (t_X7_goes_26 h7 rfl (t_X7_goes_29 (t_X7_goes_30 h7 rfl (t_X7_goes_33 k0 (Nat.le_of_ble_eq_true rfl) (sp_X0_plan hc hs (fun am lf rg tn al ar sw1 q1 q2 v3 hsc hsm => ?_))))))))))
      have hc1 := hc.keep hsm
      have j7 : sw1[0]? = some (.inr (7, [.ref 1, .ref 3, .ref 8, .ref 13, .ref 17, .ref 20, .ref 21, .ref 22, .ref 24, .ref 27])) := hc1.1.at 0 rfl
      have j0 := v3.at 0 rfl
      have jT : sw1[31]? = some (.inl (0, 40, .inl tn)) := v3.at 4 rfl
      have fin := h1 l p hl hp rfl rfl sw1 hsc hsm
      refine t_X7_goes_36 (t_X7_goes_37 j7 rfl (t_X7_goes_40 (t_X7_goes_41 (t_X7_goes_42 j0 (Nat.le_of_ble_eq_true rfl) (sp_X0_slot l p _ v3 (q1 l (by omega)) (by omega) (by omega) hp ?_)))))
      by_cases hlt : p < npS s l
      · rw [if_pos hlt] at fin ⊢
        refine t_X7_goes_45 (t_X7_goes_46 (t_X7_goes_47N (by omega) ?_))
        refine t_X7_goes_55 (t_X7_goes_56 j7 rfl (t_X7_goes_59 j0 rfl (t_X7_goes_62 (t_X7_goes_63 jT (10 * l + p) (by omega) rfl (by decide) (t_X7_goes_64 ?_)))))
        have e1 : (10 * l + p) / 10 = l := by omega
        have e2 : (10 * l + p) % 10 = p := by omega
        rw [q2 (10 * l + p) (by omega) (by rw [e1, e2]; exact hlt), rkN_at (by rw [e1, e2]; exact hlt), e1, e2]
        exact fin
      · rw [if_neg hlt] at fin ⊢
        refine t_X7_goes_45 (t_X7_goes_46 (t_X7_goes_47 (fun y => absurd y (by decide)) (fun _ => ?_)))
        refine t_X7_goes_50 (t_X7_goes_52 (t_X7_goes_64 ?_))
        exact fin
    · refine t_X7_goes_15 (t_X7_goes_16 ?_)
      refine h0 (fun ⟨_, p, _, q, _, q2⟩ => h ?_)
      rw [q2]
      exact nI_pos' q
  · refine t_X7_goes_8 (fun _ => ?_) (fun h => absurd rfl h)
    refine t_X7_goes_15 (t_X7_goes_16 ?_)
    exact h0 (fun ⟨l, _, q, _, q2, _⟩ => h l q q2)
noncomputable def wayZ (np : Nat → Nat) (lo hi : Nat → Nat → Int) (w : Nat) : Int := if w = 0 then cst (sumN np 4) (seqZ np lo) (seqZ np hi) (sumN np 4) 0 else if w = 1 then cst (sumN np 4) (seqZ np lo) (seqZ np hi) (sumN np 4) 0 + stZ (seqZ np lo) (seqZ np hi) (sumN np 4) else pthZ (sumN np 4) (seqZ np lo) (seqZ np hi) (sumN np 4)
theorem sp_X7_way (x : Int32) (hc : cls s sw) (hs : scr sw) (h1 : ∀ w, w ≤ 2 → x = nI w → ∀ sw', scr sw' → same 22 12 sw sw' → Qs (some (.int (zI (wayZ (npS s) (loS s) (hiS s) w)))) sw') (h0 : (∀ w, w ≤ 2 → x ≠ nI w) → Qs (some (.int (-1000000))) sw) : gv_S ε (d + 5) m_X7_way [.ref 0, .int x] sw Qs := by
  obtain ⟨J0, A0, lt0, am0, lf0, rg0, tn, al, ar, a, b, c, hs1, hs2, hs3⟩ := hs.ex
  have h7 : sw[0]? = some (.inr (7, [.ref 1, .ref 3, .ref 8, .ref 13, .ref 17, .ref 20, .ref 21, .ref 22, .ref 24, .ref 27])) := hc.1.at 0 rfl
  have k0 : sw[27]? = some (.inr (0, [.ref 28, .ref 29, .ref 30, .ref 31, .ref 32, .ref 33, .int a, .int b, .int c])) := hs3.at 0 rfl
  refine gv_S.go rfl ?_
  refine t_X7_way_0 (t_X7_way_1 (fun h => ?_) (fun h => ?_))
  · refine t_X7_way_9 (t_X7_way_11 ?_)
    refine h0 (fun w hw e => ?_)
    rw [e] at h
    exact nI_pos (by omega) h
  · refine t_X7_way_4 (t_X7_way_5 (t_X7_way_6 (fun g => ?_) (fun g => ?_)))
    · obtain ⟨w, hw, ew⟩ : ∃ w, w ≤ 2 ∧ x = nI w := by
        obtain ⟨j, hj, e⟩ := nI_of h
        subst e
        exact ⟨j, (nI_leI hj (by decide)).mp g, rfl⟩
      subst ew
      refine t_X7_way_12 (t_X7_way_13 h7 rfl (t_X7_way_16 (t_X7_way_17 h7 rfl (t_X7_way_20 (t_X7_way_21 h7 rfl (t_X7_way_24 (t_X7_way_25 h7 rfl (t_X7_way_28 k0 (Nat.le_of_ble_eq_true rfl) (sp_X0_plan hc hs (fun am lf rg tn al ar sw1 q1 q2 v3 hsc hsm => ?_))))))))))
      have fin := h1 w hw rfl sw1 hsc hsm
      unfold wayZ at fin
      have hc1 := hc.keep hsm
      have j7 : sw1[0]? = some (.inr (7, [.ref 1, .ref 3, .ref 8, .ref 13, .ref 17, .ref 20, .ref 21, .ref 22, .ref 24, .ref 27])) := hc1.1.at 0 rfl
      have j0 := v3.at 0 rfl
      refine t_X7_way_31 (t_X7_way_32N (by omega) (fun y => ?_) (fun y => ?_))
      · rw [if_neg (by omega)] at fin
        refine t_X7_way_43 (t_X7_way_44 (t_X7_way_45N (by omega) (by omega) (fun z => ?_) (fun z => ?_)))
        · rw [if_neg z] at fin
          refine t_X7_way_66 (t_X7_way_67 j7 rfl (t_X7_way_70 j0 rfl (t_X7_way_73 ?_)))
          exact fin
        · rw [if_pos z] at fin
          refine t_X7_way_48 (t_X7_way_49 j7 rfl (t_X7_way_52 j0 rfl (t_X7_way_55 (t_X7_way_56 j7 rfl (t_X7_way_59 j0 rfl (t_X7_way_62 (t_X7_way_63 (t_X7_way_73 ?_))))))))
          rw [zI_add]
          exact fin
      · rw [if_pos y] at fin
        refine t_X7_way_35 (t_X7_way_36 j7 rfl (t_X7_way_39 j0 rfl (t_X7_way_42 ?_)))
        exact fin
    · refine t_X7_way_9 (t_X7_way_11 ?_)
      refine h0 (fun w hw e => g ?_)
      rw [e]
      exact nI_le hw (by decide)
end S7
