/-! the dealer -/
def dlF (A : Nat → Int32) (lt : Nat → Nat) : List va_E := [.inr (1, [.ref 25, .ref 26]), .inl (0, 24, .inl A), .inl (0, 10, .inl (fun i => nI (lt i)))]
section S1
variable {ε : gv_E} {d : Nat} {Qs : Option Value → List va_E → Prop} {sw : List va_E}
/-- what the row of the latest dots says ahead of column c -/
def ltOk (D : Nat → Bool) (P : Nat → Nat) (lt : Nat → Nat) (c : Nat) : Prop := ∀ p, p < usedN D P c → lt p < c ∧ D (lt p) = true ∧ P (lt p) = p ∧ ∀ i, lt p < i → i < c → D i = true → P i ≠ p
theorem ltOk_free {D : Nat → Bool} {P lt : Nat → Nat} {c r p : Nat} (h : ltOk D P lt c) (hp : p < usedN D P c) : freeP D r P c p ↔ lt p + r < c := by
  obtain ⟨h1, h2, h3, h4⟩ := h p hp
  constructor
  · intro g
    exact g _ h1 h2 h3
  · intro g i hi hd e
    rcases Nat.lt_or_ge (lt p) i with q | q
    · exact absurd e (h4 i q hi hd)
    · omega
theorem sp_X1_deal (k r : Nat) {J lt0 : Nat → Nat} {A0 : Nat → Int32} (hS : wt 22 (stF J) sw) (hJ : ∀ c, c < 24 → J c ≤ 255) (hD : wt 24 (dlF A0 lt0) sw) (hk : k < 8) (hr : r ≤ 9) (hq : ∀ (A : Nat → Int32) (lt : Nat → Nat) (sw' : List va_E), (∀ c, c < 24 → A c = if dotB J k c = true then nI (pas (dotB J k) r c) else -9) → wt 24 (dlF A lt) sw' → same 24 3 sw sw' → Qs (some (.int (nI (usedN (dotB J k) (pas (dotB J k) r) 24)))) sw') : gv_S ε (d + 2) m_X1_deal [.ref 24, .ref 22, .int (nI r), .int (nI k)] sw Qs := by
  generalize hDd : dotB J k = D at hq
  generalize hPd : pas D r = P at hq
  -- the search of a pass
  have inner : ∀ (n p c : Nat) (A : Nat → Int32) (lt : Nat → Nat) (sw' : List va_E), c < 24 → D c = true → ltOk D P lt c → wt 24 (dlF A lt) sw' → p + n = usedN D P c → (∀ q, q < p → ¬ freeP D r P c q) → gv_M ε (d + 2) m_X1_deal sw.length Qs 65 [some (.ref 24), some (.ref 22), some (.int (nI r)), some (.int (nI k)), some (.int (nI (usedN D P c))), some (.int (nI c)), some (.int (nI (P c)))] [] sw' 0 0 → gv_M ε (d + 2) m_X1_deal sw.length Qs 38 [some (.ref 24), some (.ref 22), some (.int (nI r)), some (.int (nI k)), some (.int (nI (usedN D P c))), some (.int (nI c)), some (.int (nI p))] [] sw' 0 0 := by
    intro n
    induction n with
    | zero =>
      intro p c A lt sw' hc hd hlt hw hpn hno kk
      have hu : usedN D P c ≤ r + 1 := by rw [← hPd]; exact usedN_le c (by omega)
      refine t_X1_deal_38 (t_X1_deal_40 (t_X1_deal_42N (by omega) (by omega) (fun h => ?_) (fun h => absurd h (by omega))))
      have e : p = P c := by
        rw [← hPd]
        rw [← hPd] at hno hpn
        refine pas_eq hc hd (fun i hi hdi e => ?_) hno
        have := usedN_lt (P := pas D r) c i hi hdi
        omega
      rw [e]
      exact kk
    | succ n ih =>
      intro p c A lt sw' hc hd hlt hw hpn hno kk
      have hu : usedN D P c ≤ r + 1 := by rw [← hPd]; exact usedN_le c (by omega)
      have h1 : sw'[24]? = some (.inr (1, [.ref 25, .ref 26])) := hw.at 0 rfl
      have hL : sw'[26]? = some (.inl (0, 10, .inl (fun i => nI (lt i)))) := hw.at 2 rfl
      have hf := ltOk_free (r := r) hlt (p := p) (by omega)
      have hlc := (hlt p (by omega)).1
      refine t_X1_deal_38 (t_X1_deal_40 (t_X1_deal_42N (by omega) (by omega) (fun h => absurd h (by omega)) (fun h => ?_)))
      refine t_X1_deal_45 (t_X1_deal_47 (t_X1_deal_48 h1 rfl (t_X1_deal_51 (t_X1_deal_53 hL p (by omega) rfl (by decide) (t_X1_deal_54N (by omega) (t_X1_deal_55 (t_X1_deal_56N (by omega) (by omega) (fun h => ?_) (fun h => ?_))))))))
      · have e : p = P c := by
          rw [← hPd]
          rw [← hPd] at hno hf
          exact pas_eq hc hd (hf.mpr (by omega)) hno
        rw [e]
        exact kk
      · refine t_X1_deal_59N (t_X1_deal_62 (?_))
        refine ih (p + 1) c A lt sw' hc hd hlt hw (by omega) (fun q hq => ?_) kk
        rcases Nat.lt_or_ge q p with z | z
        · exact hno q z
        · have : q = p := by omega
          subst this
          rw [hf]
          omega
  have loop : ∀ (n c : Nat) (A : Nat → Int32) (lt : Nat → Nat) (a6 : Option Value) (sw' : List va_E), c + n = 24 → (∀ i, i < c → A i = if D i = true then nI (P i) else -9) → ltOk D P lt c → wt 24 (dlF A lt) sw' → same 24 3 sw sw' → gv_M ε (d + 2) m_X1_deal sw.length Qs 6 [some (.ref 24), some (.ref 22), some (.int (nI r)), some (.int (nI k)), some (.int (nI (usedN D P c))), some (.int (nI c)), a6] [] sw' 0 0 := by
    intro n
    induction n with
    | zero =>
      intro c A lt a6 sw' hc hA hlt hw hsm
      refine t_X1_deal_6 (t_X1_deal_8 (t_X1_deal_10N (by omega) (by omega) (fun h => ?_) (fun h => absurd h (by omega))))
      refine t_X1_deal_107 (t_X1_deal_109 ?_)
      have e : c = 24 := by omega
      subst e
      exact hq A lt sw' hA hw hsm
    | succ n ih =>
      intro c A lt a6 sw' hc hA hlt hw hsm
      have hu : usedN D P c ≤ r + 1 := by rw [← hPd]; exact usedN_le c (by omega)
      have h1 : sw'[24]? = some (.inr (1, [.ref 25, .ref 26])) := hw.at 0 rfl
      have hPA : sw'[25]? = some (.inl (0, 24, .inl A)) := hw.at 1 rfl
      refine t_X1_deal_6 (t_X1_deal_8 (t_X1_deal_10N (by omega) (by omega) (fun h => absurd h (by omega)) (fun h => ?_)))
      refine t_X1_deal_13 (t_X1_deal_14 h1 rfl (t_X1_deal_17 (t_X1_deal_19 (t_X1_deal_21 hPA c (by omega) rfl (by decide) (?_)))))
      have hw1 : wt 24 (dlF (upd A c (-9)) lt) (sw'.set 25 (.inl (0, 24, .inl (upd A c (-9))))) := hw.set 1 (.inl (0, 24, .inl (upd A c (-9)))) rfl
      have hsm1 := hsm.tr (same.set (b := 24) (n := 3) (sw := sw') 25 (.inl (0, 24, .inl (upd A c (-9)))) rfl)
      generalize sw'.set 25 (.inl (0, 24, .inl (upd A c (-9)))) = sw1 at hw1 hsm1 ⊢
      have hw1 : wt 24 (dlF (upd A c (-9)) lt) sw1 := hw1
      have hS1 := hS.keep hsm1 rfl
      have h6 : sw1[22]? = some (.inr (6, [.ref 23])) := hS1.at 0 rfl
      refine t_X1_deal_22 (t_X1_deal_23 (t_X1_deal_24 (t_X1_deal_26 h6 (Nat.le_of_ble_eq_true rfl) (sp_X6_hasDot k c hS1 hJ hk (by omega) ?_))))
      rw [hDd]
      by_cases hd : D c = true
      · rw [if_pos ⟨by omega, hd⟩]
        refine t_X1_deal_29 (fun _ => ?_) (fun h => absurd h (by decide))
        refine t_X1_deal_35 (t_X1_deal_36 (?_))
        refine inner (usedN D P c) 0 c _ lt sw1 (by omega) hd hlt hw1 (by omega) (fun q hq => absurd hq (by omega)) ?_
        have hpl : P c ≤ r := by rw [← hPd]; exact pas_le (by omega) hd
        have g1 : sw1[24]? = some (.inr (1, [.ref 25, .ref 26])) := hw1.at 0 rfl
        have gPA : sw1[25]? = some (.inl (0, 24, .inl (upd A c (-9)))) := hw1.at 1 rfl
        refine t_X1_deal_65 (t_X1_deal_67 (t_X1_deal_69N (by omega) (by omega) (fun h => absurd h (by omega)) (fun h => ?_)))
        refine t_X1_deal_72 (t_X1_deal_73 g1 rfl (t_X1_deal_76 (t_X1_deal_78 (t_X1_deal_80 gPA c (by omega) rfl (by decide) (?_)))))
        have hw2 : wt 24 (dlF (upd (upd A c (-9)) c (nI (P c))) lt) (sw1.set 25 (.inl (0, 24, .inl (upd (upd A c (-9)) c (nI (P c)))))) := hw1.set 1 (.inl (0, 24, .inl (upd (upd A c (-9)) c (nI (P c))))) rfl
        have hsm2 := hsm1.tr (same.set (b := 24) (n := 3) (sw := sw1) 25 (.inl (0, 24, .inl (upd (upd A c (-9)) c (nI (P c))))) rfl)
        generalize sw1.set 25 (.inl (0, 24, .inl (upd (upd A c (-9)) c (nI (P c))))) = sw2 at hw2 hsm2 ⊢
        have hw2 : wt 24 (dlF (upd (upd A c (-9)) c (nI (P c))) lt) sw2 := hw2
        have k1 : sw2[24]? = some (.inr (1, [.ref 25, .ref 26])) := hw2.at 0 rfl
        have kL : sw2[26]? = some (.inl (0, 10, .inl (fun i => nI (lt i)))) := hw2.at 2 rfl
        refine t_X1_deal_81 (t_X1_deal_82 k1 rfl (t_X1_deal_85 (t_X1_deal_87 (t_X1_deal_89 kL (P c) (by omega) rfl (by decide) (?_)))))
        rw [nI_set]
        refine t_X1_deal_90 (t_X1_deal_92 (t_X1_deal_94 (t_X1_deal_95N (t_X1_deal_96N (Nat.le_of_ble_eq_true rfl) (by omega) (by omega) (t_X1_deal_99 (t_X1_deal_101N (t_X1_deal_104 (?_))))))))
        have e : usedN D P (c + 1) = max (usedN D P c) (P c + 1) := by
          show (if D c = true then max (usedN D P c) (P c + 1) else usedN D P c) = _
          rw [if_pos hd]
        rw [← e]
        refine ih (c + 1) _ _ _ _ (by omega) (fun i hi => ?_) (fun p hp => ?_) (hw2.set 2 _ rfl) (hsm2.tr (same.set 26 _ rfl))
        · by_cases q : i = c
          · subst q
            rw [if_pos hd]
            exact pk_us
          · rw [pk_un q, pk_un q]
            exact hA i (by omega)
        · show (if p = P c then c else lt p) < c + 1 ∧ D (if p = P c then c else lt p) = true ∧ P (if p = P c then c else lt p) = p ∧ ∀ i, (if p = P c then c else lt p) < i → i < c + 1 → D i = true → P i ≠ p
          by_cases q : p = P c
          · rw [if_pos q]
            exact ⟨by omega, hd, q.symm, fun i h1 h2 => absurd h2 (by omega)⟩
          · rw [if_neg q]
            have hp2 : p < usedN D P c := by
              rw [e] at hp
              have : ¬ usedN D P c ≤ p := by
                intro z
                -- below P c each pass is used
                have hpc : p < P c := by omega
                rw [← hPd] at hpc z
                obtain ⟨i, i1, i2, i3⟩ := pas_below (by omega : c < 24) hd hpc
                have := usedN_lt (P := pas D r) c i i1 i2
                omega
              omega
            obtain ⟨a1, a2, a3, a4⟩ := hlt p hp2
            refine ⟨by omega, a2, a3, fun i h1 h2 h3 => ?_⟩
            rcases Nat.lt_or_ge i c with z | z
            · exact a4 i h1 z h3
            · have : i = c := by omega
              subst this
              exact fun z => q z.symm
      · rw [if_neg (fun q => hd q.2)]
        refine t_X1_deal_29 (fun h => absurd rfl h) (fun _ => ?_)
        refine t_X1_deal_32 (t_X1_deal_101N (t_X1_deal_104 (?_)))
        have e : usedN D P (c + 1) = usedN D P c := by
          show (if D c = true then max (usedN D P c) (P c + 1) else usedN D P c) = _
          rw [if_neg hd]
        rw [← e]
        refine ih (c + 1) _ lt _ sw1 (by omega) (fun i hi => ?_) (fun p hp => ?_) hw1 hsm1
        · by_cases q : i = c
          · subst q
            rw [if_neg hd]
            exact pk_us
          · rw [pk_un q]
            exact hA i (by omega)
        · rw [e] at hp
          obtain ⟨a1, a2, a3, a4⟩ := hlt p hp
          refine ⟨by omega, a2, a3, fun i h1 h2 h3 => ?_⟩
          rcases Nat.lt_or_ge i c with z | z
          · exact a4 i h1 z h3
          · have : i = c := by omega
            subst this
            exact absurd h3 hd
  refine gv_S.go rfl ?_
  refine t_X1_deal_0 (t_X1_deal_1 (t_X1_deal_3 (t_X1_deal_4 (?_))))
  exact loop 24 0 A0 lt0 _ sw (by decide) (fun i hi => absurd hi (by omega)) (fun p hp => absurd hp (by unfold usedN; omega)) hD same.rf
end S1
