/-! goes, way of the model -/
section S8
variable {ε : gv_E} {d : Nat} {Qs : Option Value → List va_E → Prop} {sw : List va_E} {v : Nat → Int32} {ch : Int64} {A : Nat → Nat → Nat} {lz hz : Nat → Int32}
theorem sp_X8_isBack (k n c : Nat) (hw : wt 44 (moF v (lN c) A lz hz) sw) (hv : v 6 = nI n) (hk : k < n) (hn : n ≤ 40) (hc : c < 2 ^ 41) (hq : Qs (some (.int (nI (c / 2 ^ (n - 1 - k) % 2)))) sw) : gv_S ε d m_X8_isBack [.ref 44, .int (nI k)] sw Qs := by
  have h8 : sw[44]? = some (.inr (8, moO v (lN c))) := hw.at 0 rfl
  have h8' : (moO v (lN c))[12]? = some (.int (nI n)) := by rw [← hv]; rfl
  have hle : c / 2 ^ (n - 1 - k) ≤ c := Nat.div_le_self _ _
  refine gv_S.go rfl ?_
  refine t_X8_isBack_0 (t_X8_isBack_1 h8 rfl (t_X8_isBack_4 (t_X8_isBack_5 h8 h8' (t_X8_isBack_8 (t_X8_isBack_9N (by omega) (t_X8_isBack_10 (t_X8_isBack_11N (by omega) (?_))))))))
  refine t_X8_isBack_12 (?_)
  rw [lsh (by omega) (by omega)]
  refine t_X8_isBack_13 (t_X8_isBack_14 (?_))
  rw [land1]
  have h2 : c / 2 ^ (n - 1 - k) % 2 < 2 := Nat.mod_lt _ (by decide)
  refine t_X8_isBack_15 (t_X8_isBack_16 (t_X8_isBack_17 (fun h => ?_) (fun h => ?_)))
  · refine t_X8_isBack_24 (t_X8_isBack_25 rfl ?_)
    have e : c / 2 ^ (n - 1 - k) % 2 = 0 := by
      have : c / 2 ^ (n - 1 - k) % 2 ≠ 1 := fun q => h (by rw [q]; decide)
      omega
    rw [e] at hq
    exact hq
  · refine t_X8_isBack_20 (t_X8_isBack_21 (t_X8_isBack_25 rfl ?_))
    have e : c / 2 ^ (n - 1 - k) % 2 = 1 := by
      have : lN (c / 2 ^ (n - 1 - k) % 2) = 1 := (lg_cmp_eq _ _).mp h
      rw [← lN1] at this
      exact (pk_lEQ (by omega) (by decide)).mp this
    rw [e] at hq
    exact hq
theorem sp_X8_goes (x y : Int32) (hw : wt 44 (moF v ch A lz hz) sw) (hr : roOk (A 0)) (h1 : ∀ l p, l < A 0 21 → p < 2 ^ 31 → x = nI l → y = nI p → ∀ (v' : Nat → Int32) (ch' : Int64) (lz' hz' : Nat → Int32) (sw' : List va_E), (∀ j, j ≠ 6 → j ≠ 7 → v' j = v j) → wt 44 (moF v' ch' A lz' hz') sw' → same 44 11 sw sw' → Qs (some (.int (if p < npR (A 0) l then nI (trnI (npR (A 0)) (loR (A 0)) (hiR (A 0)) (sumN (npR (A 0)) l + p)) else -9))) sw') (h0 : ¬ (∃ l p, l < A 0 21 ∧ p < 2 ^ 31 ∧ x = nI l ∧ y = nI p) → Qs (some (.int (-1))) sw) : gv_S ε (d + 6) m_X8_goes [.ref 44, .int x, .int y] sw Qs := by
  have h8 : sw[44]? = some (.inr (8, moO v ch)) := hw.at 0 rfl
  have hn := hr.2.2.2.2.1
  have hs40 := sumR_le hr
  refine gv_S.go rfl ?_
  refine t_X8_goes_0 (t_X8_goes_1 (t_X8_goes_2 h8 (Nat.le_of_ble_eq_true rfl) (sp_X8_isLine x (moF.qm hw) hn (fun l hl e => ?_) (fun h => ?_))))
  · subst e
    refine t_X8_goes_5 (fun h => absurd h (by decide)) (fun _ => ?_)
    refine t_X8_goes_8 (t_X8_goes_9 (fun h => ?_) (fun h => ?_))
    · obtain ⟨p, hp, rfl⟩ := nI_of (x := y) (fun q => by
        rw [Int32.le_iff_toInt_le] at h
        rw [Int32.lt_iff_toInt_lt] at q
        omega)
      have hnl : npR (A 0) l = npN (inkR (A 0) l) (A 0 1) 8 := if_pos hl
      have hnp := npR_le hr l
      refine t_X8_goes_14 (t_X8_goes_15 (t_X8_goes_16 (t_X8_goes_17 h8 (Nat.le_of_ble_eq_true rfl) (sp_X8_passesOf l (moF.qm hw) hr (by omega) ?_))))
      rw [← hnl]
      refine t_X8_goes_20N (by omega) (by omega) (fun g => ?_) (fun g => ?_)
      · have hlt : sumN (npR (A 0)) l + p < sumN (npR (A 0)) 4 := by
          obtain ⟨e0, e1, e2, e3, e4⟩ := sum4 (npR (A 0))
          rcases (show l = 0 ∨ l = 1 ∨ l = 2 ∨ l = 3 by omega) with q | q | q | q <;> rw [q] at g ⊢ <;> omega
        have loop : ∀ (m i : Nat), i + m = l → gv_M ε (d + 6) m_X8_goes sw.length Qs 31 [some (.ref 44), some (.int (nI l)), some (.int (nI p)), some (.int (nI (sumN (npR (A 0)) i))), some (.int (nI i))] [] sw 0 0 := by
          intro m
          induction m with
          | zero =>
            intro i hi
            have e : i = l := by omega
            subst e
            refine t_X8_goes_31 (t_X8_goes_33 (t_X8_goes_34N (by omega) (by omega) (fun h => ?_) (fun h => absurd h (by omega))))
            refine t_X8_goes_52 (t_X8_goes_53 h8 (Nat.le_of_ble_eq_true rfl) (sp_X8_layWay hw hr (fun lz' hz' v' sw1 hall hv6 hv7 hvo w1 hsm => ?_)))
            have fin := h1 i p hl hp rfl rfl v' _ lz' hz' sw1 hvo w1 hsm
            rw [if_pos g] at fin
            have g8 : sw1[44]? = some (.inr (8, moO v' (lN (cdN (sumN (npR (A 0)) 4) (seqZ (npR (A 0)) (loR (A 0))) (seqZ (npR (A 0)) (hiR (A 0))) (sumN (npR (A 0)) 4) 0)))) := w1.at 0 rfl
            have hcd := cdN_lt (n := sumN (npR (A 0)) 4) (a := seqZ (npR (A 0)) (loR (A 0))) (b := seqZ (npR (A 0)) (hiR (A 0))) (sumN (npR (A 0)) 4) 0
            have hpw : 2 ^ sumN (npR (A 0)) 4 ≤ 2 ^ 40 := Nat.pow_le_pow_right (by decide) hs40
            refine t_X8_goes_56 (t_X8_goes_57 (t_X8_goes_58 (t_X8_goes_59N (t_X8_goes_60 g8 (Nat.le_of_ble_eq_true rfl) (sp_X8_isBack _ _ _ w1 hv6 hlt hs40 (by omega) ?_)))))
            rw [code_bit hlt]
            unfold trnI at fin
            by_cases q : rtB (sumN (npR (A 0)) 4) (seqZ (npR (A 0)) (loR (A 0))) (seqZ (npR (A 0)) (hiR (A 0))) (sumN (npR (A 0)) i + p) (pthZ (sumN (npR (A 0)) 4) (seqZ (npR (A 0)) (loR (A 0))) (seqZ (npR (A 0)) (hiR (A 0))) (sumN (npR (A 0)) i + p)) = true
            · rw [if_pos q] at fin ⊢
              refine t_X8_goes_63 (fun _ => ?_) (fun h => absurd rfl h)
              refine t_X8_goes_70 (t_X8_goes_71 ?_)
              exact fin
            · rw [if_neg q] at fin ⊢
              refine t_X8_goes_63 (fun h => absurd h (by decide)) (fun _ => ?_)
              refine t_X8_goes_66 (t_X8_goes_67 (t_X8_goes_71 ?_))
              exact fin
          | succ m ih =>
            intro i hi
            have hni : npR (A 0) i = npN (inkR (A 0) i) (A 0 1) 8 := if_pos (by omega)
            refine t_X8_goes_31 (t_X8_goes_33 (t_X8_goes_34N (by omega) (by omega) (fun h => absurd h (by omega)) (fun h => ?_)))
            refine t_X8_goes_37 (t_X8_goes_38 (t_X8_goes_39 (t_X8_goes_41 h8 (Nat.le_of_ble_eq_true rfl) (sp_X8_passesOf i (moF.qm hw) hr (by omega) ?_))))
            rw [← hni]
            refine t_X8_goes_44N (t_X8_goes_45 (t_X8_goes_46N (t_X8_goes_49 (?_))))
            exact ih (i + 1) (by omega)
        refine t_X8_goes_26 (t_X8_goes_27 (t_X8_goes_28 (t_X8_goes_29 (?_))))
        exact loop l 0 (by omega)
      · have fin := h1 l p hl hp rfl rfl v ch lz hz sw (fun _ _ _ => rfl) hw same.rf
        rw [if_neg (by omega)] at fin
        refine t_X8_goes_23 (t_X8_goes_25 ?_)
        exact fin
    · refine t_X8_goes_12 (t_X8_goes_13 ?_)
      refine h0 (fun ⟨_, p, _, q, _, q2⟩ => h ?_)
      rw [q2]
      exact nI_pos' q
  · refine t_X8_goes_5 (fun _ => ?_) (fun h => absurd rfl h)
    refine t_X8_goes_12 (t_X8_goes_13 ?_)
    exact h0 (fun ⟨l, _, q, _, q2, _⟩ => h l q q2)
theorem sp_X8_way (x : Int32) (hw : wt 44 (moF v ch A lz hz) sw) (hr : roOk (A 0)) (h1 : ∀ w, w ≤ 2 → x = nI w → ∀ (v' : Nat → Int32) (ch' : Int64) (lz' hz' : Nat → Int32) (sw' : List va_E), (∀ j, j ≠ 6 → j ≠ 7 → v' j = v j) → wt 44 (moF v' ch' A lz' hz') sw' → same 44 11 sw sw' → Qs (some (.int (zI (wayZ (npR (A 0)) (loR (A 0)) (hiR (A 0)) w)))) sw') (h0 : (∀ w, w ≤ 2 → x ≠ nI w) → Qs (some (.int (-1000000))) sw) : gv_S ε (d + 6) m_X8_way [.ref 44, .int x] sw Qs := by
  have h8 : sw[44]? = some (.inr (8, moO v ch)) := hw.at 0 rfl
  have hs40 := sumR_le hr
  have hsp := seqR_ok hr
  refine gv_S.go rfl ?_
  refine t_X8_way_0 (t_X8_way_1 (t_X8_way_2 (t_X8_way_3 (Nat.le_of_ble_eq_true rfl) (sp_X8_inN x 2 (by decide) (fun w hw2 e => ?_) (fun h => ?_)))))
  · subst e
    refine t_X8_way_6 (fun _ => ?_) (fun h => absurd h (by decide))
    refine t_X8_way_12 (t_X8_way_13 h8 (Nat.le_of_ble_eq_true rfl) (sp_X8_layWay hw hr (fun lz' hz' v' sw1 hall hv6 hv7 hvo w1 hsm => ?_)))
    have fin := h1 w hw2 rfl v' _ lz' hz' sw1 hvo w1 hsm
    unfold wayZ at fin
    have hcd := cdN_lt (n := sumN (npR (A 0)) 4) (a := seqZ (npR (A 0)) (loR (A 0))) (b := seqZ (npR (A 0)) (hiR (A 0))) (sumN (npR (A 0)) 4) 0
    have hpw : 2 ^ sumN (npR (A 0)) 4 ≤ 2 ^ 40 := Nat.pow_le_pow_right (by decide) hs40
    generalize hN : sumN (npR (A 0)) 4 = N at *
    generalize hA : seqZ (npR (A 0)) (loR (A 0)) = a at *
    generalize hB : seqZ (npR (A 0)) (hiR (A 0)) = b at *
    have g8 : sw1[44]? = some (.inr (8, moO v' (lN (cdN N a b N 0)))) := w1.at 0 rfl
    have g6 : (moO v' (lN (cdN N a b N 0)))[12]? = some (.int (nI N)) := by rw [← hv6]; rfl
    have g7 : (moO v' (lN (cdN N a b N 0)))[15]? = some (.int (zI (cst N a b N 0))) := by rw [← hv7]; rfl
    have gL : sw1[51]? = some (.inl (0, 96, .inl lz')) := w1.at 7 rfl
    have gH : sw1[52]? = some (.inl (0, 96, .inl hz')) := w1.at 8 rfl
    have hcst := cst_bd (n := N) hsp N 0 (by decide)
    refine t_X8_way_16 (t_X8_way_17 (t_X8_way_18N (by omega) (by omega) (fun g => ?_) (fun g => ?_)))
    · -- seeks, or the time
      have loop : ∀ (m k : Nat), w = 1 → k + m = N → gv_M ε (d + 6) m_X8_way sw.length Qs 78 [some (.ref 44), some (.int (nI w)), some (.int (zI (cst N a b N 0 + stZ a b k))), some (.int (nI k))] [] sw1 0 0 := by
        intro m
        induction m with
        | zero =>
          intro k hw1 hk
          have e : k = N := by omega
          subst e
          refine t_X8_way_78 (t_X8_way_79 (t_X8_way_80 g8 g6 (t_X8_way_83N (by omega) (by omega) (fun h => ?_) (fun h => absurd h (by omega)))))
          refine t_X8_way_113 (t_X8_way_114 ?_)
          rw [if_neg (by omega), if_pos hw1] at fin
          exact fin
        | succ m ih =>
          intro k hw1 hk
          obtain ⟨zl, zh⟩ := hall k (by omega)
          refine t_X8_way_78 (t_X8_way_79 (t_X8_way_80 g8 g6 (t_X8_way_83N (by omega) (by omega) (fun h => absurd h (by omega)) (fun h => ?_))))
          refine t_X8_way_86 (t_X8_way_87 (t_X8_way_88N (by omega) (by omega) (fun h => absurd hw1 h) (fun h => ?_)))
          refine t_X8_way_91 (t_X8_way_92 (t_X8_way_93 g8 rfl (t_X8_way_96 (t_X8_way_97 gH k (by omega) rfl (by decide) (t_X8_way_98 (t_X8_way_99 g8 rfl (t_X8_way_102 (t_X8_way_103 gL k (by omega) rfl (by decide) (?_)))))))))
          rw [zl, zh]
          refine t_X8_way_104 (?_)
          rw [zI_sub]
          refine t_X8_way_105 (?_)
          rw [zI_add]
          refine t_X8_way_106 (t_X8_way_107N (t_X8_way_110 (?_)))
          have := ih (k + 1) hw1 (by omega)
          rw [stZ_s, ← Int.add_assoc] at this
          exact this
      refine t_X8_way_71 (t_X8_way_72 g8 g7 (t_X8_way_75 (t_X8_way_76 (t_X8_way_77 (?_)))))
      by_cases w1' : w = 1
      · have := loop N 0 w1' (by omega)
        rw [show cst N a b N 0 + stZ a b 0 = cst N a b N 0 from Int.add_zero _] at this
        exact this
      · rw [if_pos (by omega)] at fin
        by_cases z : N = 0
        · refine t_X8_way_78 (t_X8_way_79 (t_X8_way_80 g8 g6 (t_X8_way_83N (by omega) (by omega) (fun h => ?_) (fun h => absurd h (by omega)))))
          refine t_X8_way_113 (t_X8_way_114 ?_)
          exact fin
        · refine t_X8_way_78 (t_X8_way_79 (t_X8_way_80 g8 g6 (t_X8_way_83N (by omega) (by omega) (fun h => absurd h (by omega)) (fun h => ?_))))
          refine t_X8_way_86 (t_X8_way_87 (t_X8_way_88N (by omega) (by omega) (fun h => ?_) (fun h => absurd h w1')))
          refine t_X8_way_113 (t_X8_way_114 ?_)
          exact fin
    · rw [if_neg (by omega), if_neg (by omega)] at fin
      by_cases z : N = 0
      · refine t_X8_way_21 (t_X8_way_22 g8 g6 (t_X8_way_25N (by omega) (fun h => absurd h (by omega)) (fun _ => ?_)))
        refine t_X8_way_28 (t_X8_way_29 (t_X8_way_70 ?_))
        rw [z] at fin
        exact fin
      · obtain ⟨zl, zh⟩ := hall (N - 1) (by omega)
        have e : pthZ N a b N = if rtB N a b (N - 1) (pthZ N a b (N - 1)) = true then b (N - 1) else a (N - 1) := by
          conv => lhs; rw [show N = (N - 1) + 1 by omega]
          rw [pthZ_s, show N - 1 + 1 = N by omega]
        rw [e] at fin
        refine t_X8_way_21 (t_X8_way_22 g8 g6 (t_X8_way_25N (by omega) (fun _ => ?_) (fun h => absurd h z)))
        refine t_X8_way_32 (t_X8_way_33 (t_X8_way_34 g8 g6 (t_X8_way_37 (t_X8_way_38N (by omega) (t_X8_way_39 g8 (Nat.le_of_ble_eq_true rfl) (sp_X8_isBack (N - 1) N _ w1 hv6 (by omega) hs40 (by omega) ?_))))))
        rw [code_bit (by omega)]
        by_cases q : rtB N a b (N - 1) (pthZ N a b (N - 1)) = true
        · rw [if_pos q] at fin ⊢
          refine t_X8_way_42 (fun _ => ?_) (fun h => absurd rfl h)
          refine t_X8_way_59 (t_X8_way_60 g8 rfl (t_X8_way_63 (t_X8_way_64 g8 g6 (t_X8_way_67 (t_X8_way_68N (by omega) (t_X8_way_69 gH (N - 1) (by omega) rfl (by decide) (t_X8_way_70 ?_)))))))
          rw [zh]
          exact fin
        · rw [if_neg q] at fin ⊢
          refine t_X8_way_42 (fun h => absurd h (by decide)) (fun _ => ?_)
          refine t_X8_way_45 (t_X8_way_46 g8 rfl (t_X8_way_49 (t_X8_way_50 g8 g6 (t_X8_way_53 (t_X8_way_54N (by omega) (t_X8_way_55 gL (N - 1) (by omega) rfl (by decide) (t_X8_way_56 (?_))))))))
          rw [zl]
          refine t_X8_way_70 ?_
          exact fin
  · refine t_X8_way_6 (fun h => absurd rfl h) (fun _ => ?_)
    refine t_X8_way_9 (t_X8_way_11 ?_)
    exact h0 h
end S8
