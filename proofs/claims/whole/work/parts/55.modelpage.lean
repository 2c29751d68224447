/-! the model reads: page -/
theorem rdB_lo {rd : Nat → Nat} (h : rdB rd) {a v : Nat} (ha : a < 21) : rdB (up rd a v) := by
  obtain ⟨b1, b2, b3⟩ := h
  refine ⟨by rw [up_ne (by omega)]; exact b1, fun l hl => by rw [up_ne (by omega)]; exact b2 l hl, fun l h1 h2 => ?_⟩
  rw [up_ne (by omega)] at h1 ⊢
  exact b3 l h1 h2
theorem pNum_B {T : Nat → Nat} {n lo hi a p : Nat} {rd : Nat → Nat} (h : rdB rd) (ha : a < 21) : rdB (pNum T n lo hi a p rd).2.2.2 := by
  show rdB (if _ then _ else _)
  split
  · exact rdB_lo h ha
  · exact h
theorem thn_B {X : PR} {f : Nat → (Nat → Nat) → PR} (h : rdB X.2.2.2) (hf : ∀ q rd, rdB rd → rdB (f q rd).2.2.2) : rdB (thn X f).2.2.2 := by
  unfold thn
  split
  · exact hf _ _ h
  · exact h
theorem pSet_B {T : Nat → Nat} {n w p : Nat} {rd : Nat → Nat} (h : rdB rd) (hw : w < 3) : rdB (pSet T n w p rd).2.2.2 := thn_B (pNum_B h (by omega)) (fun _ _ g => g)
theorem pShape_B {T : Nat → Nat} {n p : Nat} {rd : Nat → Nat} (h : rdB rd) : rdB (pShape T n p rd).2.2.2 := by
  unfold pShape
  split
  · rename_i q
    exact thn_B (thn_B (thn_B (pNum_B h (by omega)) (fun _ _ g => pNum_B g (by omega))) (fun _ _ g => pNum_B g (by omega))) (fun _ _ g => g)
  · exact h
theorem pLin_B {T : Nat → Nat} {n l : Nat} (hl : l < 4) : ∀ (f p : Nat) (rd : Nat → Nat), rd 21 = l + 1 → (∀ j, j < 4 → rd (22 + j) ≤ 8) → (∀ j, l < j → j < 4 → rd (22 + j) = 0) → rdB (pLin T n l f p rd).2.2.2 := by
  intro f
  induction f with
  | zero =>
    intro p rd h1 h2 h3
    have ok : rdB rd := ⟨by rw [h1]; exact hl, h2, fun j a b => h3 j (by omega) b⟩
    exact ok
  | succ f ih =>
    intro p rd h1 h2 h3
    have ok : rdB rd := ⟨by rw [h1]; exact hl, h2, fun j a b => h3 j (by omega) b⟩
    rw [pLin_s]
    split
    · split
      · exact ok
      · rename_i q
        have h8 := h2 l hl
        refine ih _ _ ?_ (fun j hj => ?_) (fun j a b => ?_)
        · rw [up_ne (by omega), up_ne (by omega)]; exact h1
        · by_cases e : j = l
          · subst e
            rw [up_at]; omega
          · rw [up_ne (by omega), up_ne (by omega)]; exact h2 j hj
        · rw [up_ne (by omega), up_ne (by omega)]; exact h3 j a b
    · exact ok
theorem pLine_B {T : Nat → Nat} {n st p : Nat} {rd : Nat → Nat} (h : rdB rd) : rdB (pLine T n st p rd).2.2.2 := by
  unfold pLine
  split
  · exact h
  · obtain ⟨b1, b2, b3⟩ := h
    refine pLin_B (by omega) _ _ _ (up_at _ _ _) (fun j hj => ?_) (fun j a b => ?_)
    · rw [up_ne (by omega)]; exact b2 j hj
    · rw [up_ne (by omega)]; exact b3 j (by omega) b
theorem pItem_B {T : Nat → Nat} {n p : Nat} {rd : Nat → Nat} (h : rdB rd) : rdB (pItem T n p rd).2.2.2 := by
  unfold pItem
  split
  · exact pSet_B h (by decide)
  · split
    · exact pSet_B h (by decide)
    · split
      · exact pSet_B h (by decide)
      · split
        · exact pShape_B h
        · split
          · exact pLine_B h
          · exact h
theorem pItem_bl {T : Nat → Nat} {n p : Nat} {rd : Nat → Nat} (hp : p ≤ n) : pItem T n (bl T n p) rd = pItem T n p rd := by
  unfold pItem
  rw [(tk_bl hp).1, (tk_bl hp).2, bl_bl hp]
def begF (f : Nat → Nat) : Nat → Nat := fun i => if i = 2 then 12 else if i = 1 then 1 else if i = 0 then 2 else if i < 58 then 0 else f i
theorem begF_bg (f : Nat → Nat) : ∀ i, i < 58 → begF f i = bgR i := by
  intro i hi
  unfold begF bgR
  by_cases e2 : i = 2
  · subst e2; rfl
  · by_cases e1 : i = 1
    · subst e1; rfl
    · rw [if_neg e2, if_neg e1, if_pos hi, if_neg e1, if_neg e2]
theorem begF_B (f : Nat → Nat) : rdB (begF f) := by
  have h : ∀ i, 21 ≤ i → i < 58 → begF f i = 0 := by
    intro i h1 h2
    unfold begF
    rw [if_neg (by omega), if_neg (by omega), if_neg (by omega), if_pos h2]
  exact ⟨by rw [h 21 (by omega) (by omega)]; omega, fun l hl => by rw [h _ (by omega) (by omega)]; omega, fun l _ hl => h _ (by omega) (by omega)⟩
section S8
variable {ε : gv_E} {d : Nat} {Qs : Option Value → List va_E → Prop} {r U fk Kp T rd ln nu : Nat → Nat} {kn ua n sk : Nat} {pv ts tk : Int32} {sw sw' : List va_E}
theorem sp_X8_begins {k : Nat} {f : Nat → Nat} (hk : sw[k]? = some (.inl (0, 58, .inl (fun i => nI (f i))))) (h1 : ∀ (sw' : List va_E), sw'[k]? = some (.inl (0, 58, .inl (fun i => nI (begF f i)))) → same k 1 sw sw' → Qs none sw') : gv_S ε d m_X8_begins [.ref k] sw Qs := by
  have hin : ∀ sw1 : List va_E, same k 1 sw sw1 → k < sw1.length := fun sw1 hs => by
    rw [hs.1]
    exact (List.getElem?_eq_some_iff.mp hk).1
  have loop : ∀ (q j : Nat) (g : Nat → Nat) (sw1 : List va_E), j + q = 58 → g = (fun i => if i < j then 0 else f i) → sw1[k]? = some (.inl (0, 58, .inl (fun i => nI (g i)))) → same k 1 sw sw1 → gv_M ε d m_X8_begins sw.length Qs 2 [some (.ref k), some (.int (nI j))] [] sw1 0 0 := by
    intro q
    induction q with
    | zero =>
      intro j g sw1 hj hg hA hs
      have e : j = 58 := by omega
      subst e
      refine t_X8_begins_2 (t_X8_begins_3 (t_X8_begins_5N (by omega) (by omega) (fun h => ?_) (fun h => absurd h (by omega))))
      refine t_X8_begins_18 (t_X8_begins_19 (t_X8_begins_20 (t_X8_begins_21 hA 0 (by decide) rfl (by decide) (?_))))
      rw [nI_set]
      have c2 := List.getElem?_set_self (a := (.inl (0, 58, .inl (fun i => nI (if i = 0 then 2 else g i))) : va_E)) (hin sw1 hs)
      have m2 : same k 1 sw1 _ := same.setb 0 (.inl (0, 58, .inl (fun i => nI (if i = 0 then 2 else g i)))) rfl
      rw [Nat.add_zero] at m2
      generalize List.set sw1 _ _ = sw2 at c2 m2 ⊢
      refine t_X8_begins_22 (t_X8_begins_23 (t_X8_begins_24 (t_X8_begins_25 c2 1 (by decide) rfl (by decide) (?_))))
      rw [nI_set]
      have c3 := List.getElem?_set_self (a := (.inl (0, 58, .inl (fun i => nI (if i = 1 then 1 else if i = 0 then 2 else g i))) : va_E)) (hin sw2 (hs.tr m2))
      have m3 : same k 1 sw2 _ := same.setb 0 (.inl (0, 58, .inl (fun i => nI (if i = 1 then 1 else if i = 0 then 2 else g i)))) rfl
      rw [Nat.add_zero] at m3
      generalize List.set sw2 _ _ = sw3 at c3 m3 ⊢
      refine t_X8_begins_26 (t_X8_begins_27 (t_X8_begins_28 (t_X8_begins_30 c3 2 (by decide) rfl (by decide) (?_))))
      rw [nI_set]
      have c4 := List.getElem?_set_self (a := (.inl (0, 58, .inl (fun i => nI (if i = 2 then 12 else if i = 1 then 1 else if i = 0 then 2 else g i))) : va_E)) (hin sw3 ((hs.tr m2).tr m3))
      have m4 : same k 1 sw3 _ := same.setb 0 (.inl (0, 58, .inl (fun i => nI (if i = 2 then 12 else if i = 1 then 1 else if i = 0 then 2 else g i)))) rfl
      rw [Nat.add_zero] at m4
      generalize List.set sw3 _ _ = sw4 at c4 m4 ⊢
      refine t_X8_begins_31 (Nat.le_refl _) ?_
      refine h1 sw4 ?_ (((hs.tr m2).tr m3).tr m4)
      rw [c4, hg]
      rfl
    | succ q ih =>
      intro j g sw1 hj hg hA hs
      refine t_X8_begins_2 (t_X8_begins_3 (t_X8_begins_5N (by omega) (by omega) (fun h => absurd h (by omega)) (fun h => ?_)))
      refine t_X8_begins_8 (t_X8_begins_9 (t_X8_begins_10 (t_X8_begins_11 hA j h rfl (by decide) (t_X8_begins_12N (t_X8_begins_15 (?_))))))
      rw [nI_set]
      have m2 : same k 1 sw1 (sw1.set (k + 0) (.inl (0, 58, .inl (fun i => nI (if i = j then 0 else g i))))) := same.setb 0 _ rfl
      refine ih (j + 1) (fun i => if i = j then 0 else g i) _ (by omega) ?_ (List.getElem?_set_self (hin sw1 hs)) (hs.tr m2)
      rw [hg]
      funext i
      show (if i = j then 0 else if i < j then 0 else f i) = if i < j + 1 then 0 else f i
      by_cases e : i = j
      · rw [if_pos e, if_pos (by omega)]
      · by_cases z : i < j
        · rw [if_neg e, if_pos z, if_pos (by omega)]
        · rw [if_neg e, if_neg z, if_neg (by omega)]
  refine gv_S.go rfl ?_
  refine t_X8_begins_0 (t_X8_begins_1 (?_))
  refine loop 58 0 f sw (by decide) ?_ hk same.rf
  funext i
  rw [if_neg (by omega)]
theorem mrW.put (h : mrW r U fk Kp T rd ln nu kn ua n sk pv ts tk sw) {rd' : Nat → Nat} (hs : same 50 1 sw sw') (hc : sw'[50]? = some (.inl (0, 58, .inl (fun i => nI (rd' i))))) : mrW r U fk Kp T rd' ln nu kn ua n sk pv ts tk sw' := by
  obtain ⟨v, ch, A, lz, hz, hw, rfl, rfl, rfl, rfl, rfl, rfl, rfl, rfl, e0, e1, e2, e3, e4, e5, e8⟩ := h
  exact ⟨v, ch, upA A 5 rd', lz, hz, hw.put 6 hs hc, rfl, rfl, rfl, rfl, rfl, rfl, rfl, rfl, e0, e1, e2, e3, e4, e5, e8⟩
theorem mrW.sR (h : mrW r U fk Kp T rd ln nu kn ua n sk pv ts tk sw) (r' : Nat → Nat) : mrW r' U fk Kp T rd ln nu kn ua n sk pv ts tk (sw.set 45 (.inl (0, 58, .inl (fun i => nI (r' i))))) := by
  obtain ⟨v, ch, A, lz, hz, hw, rfl, rfl, rfl, rfl, rfl, rfl, rfl, rfl, e0, e1, e2, e3, e4, e5, e8⟩ := h
  exact ⟨v, ch, upA A 0 r', lz, hz, hw.set 1 _ rfl, rfl, rfl, rfl, rfl, rfl, rfl, rfl, rfl, e0, e1, e2, e3, e4, e5, e8⟩
theorem mrW.f6 (h : mrW r U fk Kp T rd ln nu kn ua n sk pv ts tk sw) {fs : List Value} (h8 : sw[44]? = some (.inr (8, fs))) (n' : Nat) : mrW r U fk Kp T rd ln nu kn ua n' sk pv ts tk (sw.set 44 (.inr (8, fs.set 6 (.int (nI n'))))) := by
  obtain ⟨v, ch, A, lz, hz, hw, rfl, rfl, rfl, rfl, rfl, rfl, rfl, rfl, e0, e1, e2, e3, e4, e5, e8⟩ := h
  have e := moW.fs_eq hw h8
  subst e
  exact ⟨upd v 2 (nI n'), ch, A, lz, hz, hw.set 0 _ rfl, rfl, rfl, rfl, rfl, rfl, rfl, rfl, rfl, e0, e1, rfl, e3, e4, e5, e8⟩
theorem sp_X8_readsItem (p : Nat) (hM : mrW r U fk Kp T rd ln nu kn ua n sk pv ts tk sw) (hpv : pv = nI p) (hT : txOk T n) (hp : p ≤ n) (hB : rdB rd) (hq : mq r U fk Kp T ln nu kn ua n sk Qs sw (pItem T n p rd)) : gv_S ε (d + 5) m_X8_readsItem [.ref 44] sw Qs := by
  obtain ⟨afs, a8, al, a6, a7, a9, a10, a11, a12, aT, aD⟩ := hM.view
  have hc := tkC_le hp hT
  have hN := (tkN_ok (T := T) hp).2.1
  unfold pItem at hq
  refine gv_S.go rfl ?_
  refine t_X8_readsItem_0 (t_X8_readsItem_1 a8 (Nat.le_of_ble_eq_true rfl) (sp_X8_next p hM hpv hT hp (fun sw1 hM1 m1 => ?_)))
  obtain ⟨yfs, y8, yl, y6, y7, y9, y10, y11, y12, yT, yD⟩ := hM1.view
  have none : tkC T n p ≠ 103 → tkC T n p ≠ 114 → tkC T n p ≠ 110 → tkC T n p ≠ 100 → tkC T n p ≠ 108 → gv_M ε (d + 5) m_X8_readsItem sw.length Qs 165 [some (.ref 44)] [] sw1 0 0 := by
    intro c1 c2 c3 c4 c5
    rw [if_neg c1, if_neg c2, if_neg c3, if_neg c4, if_neg c5] at hq
    refine t_X8_readsItem_165 (t_X8_readsItem_166 rfl ?_)
    exact hq _ sw1 hM1 m1
  by_cases hin : 100 ≤ tkC T n p ∧ tkC T n p ≤ 114
  · refine t_X8_readsItem_4 (t_X8_readsItem_5 y8 y11 (?_))
    rw [tk_nI (by omega)]
    generalize hC : tkC T n p = c at hin hq none
    have hcs : c = 100 ∨ c = 101 ∨ c = 102 ∨ c = 103 ∨ c = 104 ∨ c = 105 ∨ c = 106 ∨ c = 107 ∨ c = 108 ∨ c = 109 ∨ c = 110 ∨ c = 111 ∨ c = 112 ∨ c = 113 ∨ c = 114 := by omega
    rcases hcs with e | e | e | e | e | e | e | e | e | e | e | e | e | e | e <;> subst e
    · refine t_X8_readsItem_8_100 ?_
      refine t_X8_readsItem_155 (t_X8_readsItem_156 y8 (Nat.le_of_ble_eq_true rfl) (sp_X8_readsLetter (rd := rd) (tkN T n p) hM1 rfl hT hN (fun tk2 sw2 hM2 m2 => ?_)))
      refine t_X8_readsItem_159 (by split <;> rfl) ?_
      exact hq tk2 sw2 hM2 (m1.tr m2)
    · refine t_X8_readsItem_8_101 ?_
      exact none (by decide) (by decide) (by decide) (by decide) (by decide)
    · refine t_X8_readsItem_8_102 ?_
      exact none (by decide) (by decide) (by decide) (by decide) (by decide)
    · have hq : mq r U fk Kp T ln nu kn ua n sk Qs sw (pSet T n 0 (tkN T n p) rd) := hq
      unfold pSet at hq
      refine t_X8_readsItem_8_103 ?_
      refine t_X8_readsItem_84 (t_X8_readsItem_85 (t_X8_readsItem_86 (t_X8_readsItem_87 (t_X8_readsItem_88 y8 (Nat.le_of_ble_eq_true rfl) (sp_X8_number (rd := rd) 0 0 4 (tkN T n p) hM1 rfl hT hN (by decide) (by decide) (by decide) (fun tk2 sw2 hM2 m2 => ?_))))))
      have en : (pNum T n (loP 0) (hiP 0) 0 (tkN T n p) rd).2.2.1 = tkN T n (tkN T n p) := rfl
      have eP : pNum T n 0 4 0 (tkN T n p) rd = pNum T n (loP 0) (hiP 0) 0 (tkN T n p) rd := rfl
      rw [eP] at hM2 ⊢
      generalize pNum T n (loP 0) (hiP 0) 0 (tkN T n p) rd = X at hq hM2 en ⊢
      by_cases z : X.1 = true
      · rw [if_pos z]
        rw [thn_t z] at hq
        have hN2 := (tkN_ok (T := T) hN).2.1
        rw [← en] at hN2
        obtain ⟨vfs, v8, vl, v6, v7, v9, v10, v11, v12, vT, vD⟩ := hM2.view
        refine t_X8_readsItem_91 (fun h => absurd h (by decide)) (fun _ => ?_)
        refine t_X8_readsItem_94 (t_X8_readsItem_95 v8 (Nat.le_of_ble_eq_true rfl) (sp_X8_stops _ hM2 rfl hT hN2 (fun tk3 sw3 hM3 m3 => ?_)))
        have fin := hq tk3 sw3 hM3 ((m1.tr m2).tr m3)
        generalize pStop T n X.2.2.1 X.2.2.2 = Y at fin ⊢
        by_cases z3 : Y.1 = true
        · rw [if_pos z3] at fin ⊢
          refine t_X8_readsItem_98 (fun h => absurd h (by decide)) (fun _ => ?_)
          refine t_X8_readsItem_101 (t_X8_readsItem_102 (t_X8_readsItem_106 rfl ?_))
          exact fin
        · rw [if_neg z3] at fin ⊢
          refine t_X8_readsItem_98 (fun _ => ?_) (fun h => absurd rfl h)
          refine t_X8_readsItem_105 (t_X8_readsItem_106 rfl ?_)
          exact fin
      · rw [if_neg z]
        rw [thn_f z] at hq
        have fin := hq tk2 sw2 hM2 (m1.tr m2)
        rw [if_neg z] at fin
        refine t_X8_readsItem_91 (fun _ => ?_) (fun h => absurd rfl h)
        refine t_X8_readsItem_105 (t_X8_readsItem_106 rfl ?_)
        exact fin
    · refine t_X8_readsItem_8_104 ?_
      exact none (by decide) (by decide) (by decide) (by decide) (by decide)
    · refine t_X8_readsItem_8_105 ?_
      exact none (by decide) (by decide) (by decide) (by decide) (by decide)
    · refine t_X8_readsItem_8_106 ?_
      exact none (by decide) (by decide) (by decide) (by decide) (by decide)
    · refine t_X8_readsItem_8_107 ?_
      exact none (by decide) (by decide) (by decide) (by decide) (by decide)
    · refine t_X8_readsItem_8_108 ?_
      refine t_X8_readsItem_160 (t_X8_readsItem_161 y8 (Nat.le_of_ble_eq_true rfl) (sp_X8_readsLine (rd := rd) (bl T n p) (tkN T n p) hM1 rfl rfl hT hN hB (fun tk2 sw2 hM2 m2 => ?_)))
      refine t_X8_readsItem_164 (by split <;> rfl) ?_
      exact hq tk2 sw2 hM2 (m1.tr m2)
    · refine t_X8_readsItem_8_109 ?_
      exact none (by decide) (by decide) (by decide) (by decide) (by decide)
    · have hq : mq r U fk Kp T ln nu kn ua n sk Qs sw (pSet T n 2 (tkN T n p) rd) := hq
      unfold pSet at hq
      refine t_X8_readsItem_8_110 ?_
      refine t_X8_readsItem_131 (t_X8_readsItem_132 (t_X8_readsItem_133 (t_X8_readsItem_134 (t_X8_readsItem_136 y8 (Nat.le_of_ble_eq_true rfl) (sp_X8_number (rd := rd) 2 1 72 (tkN T n p) hM1 rfl hT hN (by decide) (by decide) (by decide) (fun tk2 sw2 hM2 m2 => ?_))))))
      have en : (pNum T n (loP 2) (hiP 2) 2 (tkN T n p) rd).2.2.1 = tkN T n (tkN T n p) := rfl
      have eP : pNum T n 1 72 2 (tkN T n p) rd = pNum T n (loP 2) (hiP 2) 2 (tkN T n p) rd := rfl
      rw [eP] at hM2 ⊢
      generalize pNum T n (loP 2) (hiP 2) 2 (tkN T n p) rd = X at hq hM2 en ⊢
      by_cases z : X.1 = true
      · rw [if_pos z]
        rw [thn_t z] at hq
        have hN2 := (tkN_ok (T := T) hN).2.1
        rw [← en] at hN2
        obtain ⟨vfs, v8, vl, v6, v7, v9, v10, v11, v12, vT, vD⟩ := hM2.view
        refine t_X8_readsItem_139 (fun h => absurd h (by decide)) (fun _ => ?_)
        refine t_X8_readsItem_142 (t_X8_readsItem_143 v8 (Nat.le_of_ble_eq_true rfl) (sp_X8_stops _ hM2 rfl hT hN2 (fun tk3 sw3 hM3 m3 => ?_)))
        have fin := hq tk3 sw3 hM3 ((m1.tr m2).tr m3)
        generalize pStop T n X.2.2.1 X.2.2.2 = Y at fin ⊢
        by_cases z3 : Y.1 = true
        · rw [if_pos z3] at fin ⊢
          refine t_X8_readsItem_146 (fun h => absurd h (by decide)) (fun _ => ?_)
          refine t_X8_readsItem_149 (t_X8_readsItem_150 (t_X8_readsItem_154 rfl ?_))
          exact fin
        · rw [if_neg z3] at fin ⊢
          refine t_X8_readsItem_146 (fun _ => ?_) (fun h => absurd rfl h)
          refine t_X8_readsItem_153 (t_X8_readsItem_154 rfl ?_)
          exact fin
      · rw [if_neg z]
        rw [thn_f z] at hq
        have fin := hq tk2 sw2 hM2 (m1.tr m2)
        rw [if_neg z] at fin
        refine t_X8_readsItem_139 (fun _ => ?_) (fun h => absurd rfl h)
        refine t_X8_readsItem_153 (t_X8_readsItem_154 rfl ?_)
        exact fin
    · refine t_X8_readsItem_8_111 ?_
      exact none (by decide) (by decide) (by decide) (by decide) (by decide)
    · refine t_X8_readsItem_8_112 ?_
      exact none (by decide) (by decide) (by decide) (by decide) (by decide)
    · refine t_X8_readsItem_8_113 ?_
      exact none (by decide) (by decide) (by decide) (by decide) (by decide)
    · have hq : mq r U fk Kp T ln nu kn ua n sk Qs sw (pSet T n 1 (tkN T n p) rd) := hq
      unfold pSet at hq
      refine t_X8_readsItem_8_114 ?_
      refine t_X8_readsItem_107 (t_X8_readsItem_108 (t_X8_readsItem_109 (t_X8_readsItem_110 (t_X8_readsItem_112 y8 (Nat.le_of_ble_eq_true rfl) (sp_X8_number (rd := rd) 1 0 9 (tkN T n p) hM1 rfl hT hN (by decide) (by decide) (by decide) (fun tk2 sw2 hM2 m2 => ?_))))))
      have en : (pNum T n (loP 1) (hiP 1) 1 (tkN T n p) rd).2.2.1 = tkN T n (tkN T n p) := rfl
      have eP : pNum T n 0 9 1 (tkN T n p) rd = pNum T n (loP 1) (hiP 1) 1 (tkN T n p) rd := rfl
      rw [eP] at hM2 ⊢
      generalize pNum T n (loP 1) (hiP 1) 1 (tkN T n p) rd = X at hq hM2 en ⊢
      by_cases z : X.1 = true
      · rw [if_pos z]
        rw [thn_t z] at hq
        have hN2 := (tkN_ok (T := T) hN).2.1
        rw [← en] at hN2
        obtain ⟨vfs, v8, vl, v6, v7, v9, v10, v11, v12, vT, vD⟩ := hM2.view
        refine t_X8_readsItem_115 (fun h => absurd h (by decide)) (fun _ => ?_)
        refine t_X8_readsItem_118 (t_X8_readsItem_119 v8 (Nat.le_of_ble_eq_true rfl) (sp_X8_stops _ hM2 rfl hT hN2 (fun tk3 sw3 hM3 m3 => ?_)))
        have fin := hq tk3 sw3 hM3 ((m1.tr m2).tr m3)
        generalize pStop T n X.2.2.1 X.2.2.2 = Y at fin ⊢
        by_cases z3 : Y.1 = true
        · rw [if_pos z3] at fin ⊢
          refine t_X8_readsItem_122 (fun h => absurd h (by decide)) (fun _ => ?_)
          refine t_X8_readsItem_125 (t_X8_readsItem_126 (t_X8_readsItem_130 rfl ?_))
          exact fin
        · rw [if_neg z3] at fin ⊢
          refine t_X8_readsItem_122 (fun _ => ?_) (fun h => absurd rfl h)
          refine t_X8_readsItem_129 (t_X8_readsItem_130 rfl ?_)
          exact fin
      · rw [if_neg z]
        rw [thn_f z] at hq
        have fin := hq tk2 sw2 hM2 (m1.tr m2)
        rw [if_neg z] at fin
        refine t_X8_readsItem_115 (fun _ => ?_) (fun h => absurd rfl h)
        refine t_X8_readsItem_129 (t_X8_readsItem_130 rfl ?_)
        exact fin
  · have hz : (tkI (tkC T n p)).toInt < 100 ∨ 114 < (tkI (tkC T n p)).toInt := by
      rcases hc with e | e
      · rw [e]
        decide
      · rw [tk_nI e, nI_toInt (by omega)]
        omega
    refine t_X8_readsItem_4 (t_X8_readsItem_5 y8 y11 (t_X8_readsItem_8_d hz ?_))
    exact none (by omega) (by omega) (by omega) (by omega) (by omega)
end S8
