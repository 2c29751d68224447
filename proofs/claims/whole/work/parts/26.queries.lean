/-! what is asked of the columns before the 24th alone -/
theorem pas_cong {D D' : Nat → Bool} {r : Nat} (h : ∀ c, c < 24 → D c = D' c) : ∀ c, c < 24 → D c = true → pas D r c = pas D' r c := by
  intro c
  induction c using Nat.strongRecOn with
  | ind c ih =>
    intro hc hd
    have key : ∀ q, freeP D r (pas D r) c q ↔ freeP D' r (pas D' r) c q := by
      intro q
      constructor
      · intro g i hi hdi e
        have hdi2 : D i = true := by rw [h i (by omega)]; exact hdi
        exact g i hi hdi2 (by rw [ih i hi (by omega) hdi2]; exact e)
      · intro g i hi hdi e
        have e2 := ih i hi (by omega) hdi
        exact g i hi (by rw [← h i (by omega)]; exact hdi) (by rw [← e2]; exact e)
    obtain ⟨g1, g2⟩ := pas_ok D r c hc hd
    exact pas_eq hc (by rw [← h c hc]; exact hd) ((key _).mp g1) (fun q hq z => g2 q hq ((key q).mpr z))
theorem usedN_cong {D D' : Nat → Bool} {P P' : Nat → Nat} : ∀ {n : Nat}, (∀ c, c < n → D c = D' c) → (∀ c, c < n → D c = true → P c = P' c) → usedN D P n = usedN D' P' n := by
  intro n
  induction n with
  | zero => intro _ _; rfl
  | succ n ih =>
    intro h1 h2
    unfold usedN
    rw [ih (fun c hc => h1 c (by omega)) (fun c hc => h2 c (by omega)), ← h1 n (by omega)]
    by_cases q : D n = true
    · rw [if_pos q, if_pos q, h2 n (by omega) q]
    · rw [if_neg q, if_neg q]
theorem dotB_cong {J J' : Nat → Nat} (h : ∀ c, c < 24 → J c = J' c) (k : Nat) : ∀ c, c < 24 → dotB J k c = dotB J' k c := fun c hc => by unfold dotB; rw [h c hc]
theorem npN_cong {J J' : Nat → Nat} {r : Nat} (h : ∀ c, c < 24 → J c = J' c) : ∀ n, npN J r n = npN J' r n := by
  intro n
  induction n with
  | zero => rfl
  | succ n ih =>
    unfold npN
    rw [ih, usedN_cong (dotB_cong h n) (pas_cong (dotB_cong h n))]
theorem cntN_cong {p q : Nat → Bool} {a : Nat} : ∀ {n : Nat}, (∀ i, i < n → p (a + i) = q (a + i)) → cntN p a n = cntN q a n := by
  intro n
  induction n with
  | zero => intro _; rfl
  | succ n ih =>
    intro h
    unfold cntN
    rw [ih (fun i hi => h i (by omega)), h n (by omega)]
/-! the class's worlds -/
def clF : List va_E := [.inr (7, [.ref 1, .ref 3, .ref 8, .ref 13, .ref 17, .ref 20, .ref 21, .ref 22, .ref 24, .ref 27])]
def coF (co : (Nat → Nat → Int32) × (Nat → Int32)) : List va_E := [.inr (0, [.ref 28, .ref 29, .ref 30, .ref 31, .ref 32, .ref 33, .int (co.2 0), .int (co.2 1), .int (co.2 2)]), .inl (0, 4, .inl (co.1 0)), .inl (0, 40, .inl (co.1 1)), .inl (0, 40, .inl (co.1 2)), .inl (0, 40, .inl (co.1 3)), .inl (0, 40, .inl (co.1 4)), .inl (0, 40, .inl (co.1 5))]
def scr (sw : List va_E) : Prop := ∃ J A lt co, wt 22 (stF J) sw ∧ wt 24 (dlF A lt) sw ∧ wt 27 (coF co) sw
def cls (s : shT) (sw : List va_E) : Prop := wt 0 clF sw ∧ wt 3 (shF 3 s) sw ∧ shOk s
theorem cls.keep {s : shT} {sw sw' : List va_E} (h : cls s sw) (hs : same 22 12 sw sw') : cls s sw' := ⟨h.1.keep hs rfl, h.2.1.keep hs rfl, h.2.2⟩
theorem scr.st {sw sw' : List va_E} (h : scr sw) {J : Nat → Nat} (h1 : wt 22 (stF J) sw') (hs : same 22 2 sw sw') : scr sw' := by
  obtain ⟨J0, A, lt, co, -, h3, h4⟩ := h
  exact ⟨J, A, lt, co, h1, h3.keep hs rfl, h4.keep hs rfl⟩
theorem scr.dl {sw sw' : List va_E} (h : scr sw) {A : Nat → Int32} {lt : Nat → Nat} (h1 : wt 24 (dlF A lt) sw') (hs : same 24 3 sw sw') : scr sw' := by
  obtain ⟨J0, A0, lt0, co, h2, -, h4⟩ := h
  exact ⟨J0, A, lt, co, h2.keep hs rfl, h1, h4.keep hs rfl⟩
section S7
variable {ε : gv_E} {d : Nat} {Qs : Option Value → List va_E → Prop} {sw : List va_E} {s : shT}
theorem sp_X7_passesOf (l : Nat) (hc : cls s sw) (hs : scr sw) (hl : l < s.2.2.2.2) (hq : ∀ sw', scr sw' → same 22 12 sw sw' → Qs (some (.int (nI (npN (inkN s l) (s.1 1) 8)))) sw') : gv_S ε (d + 3) m_X7_passesOf [.ref 0, .int (nI l)] sw Qs := by
  obtain ⟨J0, A0, lt0, co0, hs1, hs2, hs3⟩ := id hs
  have h7 : sw[0]? = some (.inr (7, [.ref 1, .ref 3, .ref 8, .ref 13, .ref 17, .ref 20, .ref 21, .ref 22, .ref 24, .ref 27])) := hc.1.at 0 rfl
  have h6 : sw[22]? = some (.inr (6, [.ref 23])) := hs1.at 0 rfl
  have hr := hc.2.2.2.1
  refine gv_S.go rfl ?_
  refine t_X7_passesOf_0 (t_X7_passesOf_1 h7 rfl (t_X7_passesOf_4 (t_X7_passesOf_5 h7 rfl (t_X7_passesOf_8 (t_X7_passesOf_9 h6 (Nat.le_of_ble_eq_true rfl) (sp_X6_lay l hs1 hc.2.1 hc.2.2 hl (fun J sw1 hJ hw1 hsm1 => ?_)))))))
  have hJ255 : ∀ c, c < 24 → J c ≤ 255 := fun c hcc => by rw [hJ c hcc]; exact inkN_le hc.2.2 l c
  have hsc1 := hs.st hw1 hsm1
  have loop : ∀ (n k : Nat) (sw2 : List va_E), k + n = 8 → scr sw2 → wt 22 (stF J) sw2 → same 22 12 sw sw2 → gv_M ε (d + 3) m_X7_passesOf sw.length Qs 16 [some (.ref 0), some (.int (nI l)), some (.int (nI (npN J (s.1 1) k))), some (.int (nI k))] [] sw2 0 0 := by
    intro n
    induction n with
    | zero =>
      intro k sw2 hk hsc hst hsm
      refine t_X7_passesOf_16 (t_X7_passesOf_17 (t_X7_passesOf_19N (by omega) (by omega) (fun h => ?_) (fun h => absurd h (by omega))))
      refine t_X7_passesOf_54 (t_X7_passesOf_55 ?_)
      rw [show k = 8 by omega, npN_cong hJ]
      exact hq sw2 hsc hsm
    | succ n ih =>
      intro k sw2 hk hsc hst hsm
      have hc2 := hc.keep hsm
      obtain ⟨J1, A1, lt1, co1, g1, g2, g3⟩ := id hsc
      have h7 : sw2[0]? = some (.inr (7, [.ref 1, .ref 3, .ref 8, .ref 13, .ref 17, .ref 20, .ref 21, .ref 22, .ref 24, .ref 27])) := hc2.1.at 0 rfl
      have h4 : sw2[3]? = some (.inr (4, [.ref (3 + 1), .ref (3 + 2), .ref (3 + 3), .ref (3 + 4), .int (nI s.2.2.2.2)])) := hc2.2.1.at 0 rfl
      have hset : sw2[4]? = some (.inl (0, 3, .inl (fun i => nI (s.1 i)))) := hc2.2.1.at 1 rfl
      have h1 : sw2[24]? = some (.inr (1, [.ref 25, .ref 26])) := g2.at 0 rfl
      have hnp := npN_le (J := J) (r := s.1 1) k
      have hus := usedN_le (D := dotB J k) (r := s.1 1) 24 (Nat.le_refl _)
      refine t_X7_passesOf_16 (t_X7_passesOf_17 (t_X7_passesOf_19N (by omega) (by omega) (fun h => absurd h (by omega)) (fun h => ?_)))
      refine t_X7_passesOf_22 (t_X7_passesOf_23 (t_X7_passesOf_24 h7 rfl (t_X7_passesOf_27 (t_X7_passesOf_28 h7 rfl (t_X7_passesOf_31 (t_X7_passesOf_32 h7 rfl (t_X7_passesOf_35 h4 rfl (t_X7_passesOf_38 (t_X7_passesOf_39 hset 1 (by decide) rfl (by decide) (t_X7_passesOf_40 (t_X7_passesOf_41 h1 (Nat.le_of_ble_eq_true rfl) (sp_X1_deal k (s.1 1) hst hJ255 g2 (by omega) hr (fun A lt sw3 hA hw3 hsm3 => ?_)))))))))))))
      refine t_X7_passesOf_44N (Nat.le_of_ble_eq_true rfl) (by omega) (by omega) (t_X7_passesOf_47 (t_X7_passesOf_48N (t_X7_passesOf_51 (?_))))
      exact ih (k + 1) sw3 (by omega) (hsc.dl hw3 hsm3) (hst.keep hsm3 rfl) (hsm.tr (hsm3.wide (by decide) (by decide)))
  refine t_X7_passesOf_12 (t_X7_passesOf_13 (t_X7_passesOf_14 (t_X7_passesOf_15 (?_))))
  exact loop 8 0 sw1 (by decide) hsc1 hw1 (hsm1.wide (by decide) (by decide))
theorem sp_X7_passes (x : Int32) (hc : cls s sw) (hs : scr sw) (h1 : ∀ l, l < s.2.2.2.2 → x = nI l → ∀ sw', scr sw' → same 22 12 sw sw' → Qs (some (.int (nI (npN (inkN s l) (s.1 1) 8)))) sw') (h0 : (∀ l, l < s.2.2.2.2 → x ≠ nI l) → Qs (some (.int (-1))) sw) : gv_S ε (d + 4) m_X7_passes [.ref 0, .int x] sw Qs := by
  have h7 : sw[0]? = some (.inr (7, [.ref 1, .ref 3, .ref 8, .ref 13, .ref 17, .ref 20, .ref 21, .ref 22, .ref 24, .ref 27])) := hc.1.at 0 rfl
  have h4 : sw[3]? = some (.inr (4, [.ref (3 + 1), .ref (3 + 2), .ref (3 + 3), .ref (3 + 4), .int (nI s.2.2.2.2)])) := hc.2.1.at 0 rfl
  refine gv_S.go rfl ?_
  refine t_X7_passes_0 (t_X7_passes_1 h7 rfl (t_X7_passes_4 (t_X7_passes_5 h4 (Nat.le_of_ble_eq_true rfl) (sp_X4_hasLine x hc.2.1 hc.2.2.2.2.2.2.1 (fun l hl e => ?_) (fun h => ?_)))))
  · refine t_X7_passes_8 (fun h => absurd h (by decide)) (fun _ => ?_)
    subst e
    refine t_X7_passes_11 (t_X7_passes_12 (t_X7_passes_13 h7 (Nat.le_of_ble_eq_true rfl) (sp_X7_passesOf l hc hs hl (fun sw' a b => ?_))))
    refine t_X7_passes_16 (t_X7_passes_20 ?_)
    exact h1 l hl rfl sw' a b
  · refine t_X7_passes_8 (fun _ => ?_) (fun h => absurd rfl h)
    refine t_X7_passes_19 (t_X7_passes_20 ?_)
    exact h0 h
/-- a place: line, needle, column -/
theorem sp_X7_isPlace (x y z : Int32) (hc : cls s sw) (h1 : ∀ l k c, l < s.2.2.2.2 → k < 8 → c < 24 → x = nI l → y = nI k → z = nI c → Qs (some (.int (nI 1))) sw) (h0 : ¬ (∃ l k c, l < s.2.2.2.2 ∧ k < 8 ∧ c < 24 ∧ x = nI l ∧ y = nI k ∧ z = nI c) → Qs (some (.int (nI 0))) sw) : gv_S ε (d + 1) m_X7_isPlace [.ref 0, .int x, .int y, .int z] sw Qs := by
  have h7 : sw[0]? = some (.inr (7, [.ref 1, .ref 3, .ref 8, .ref 13, .ref 17, .ref 20, .ref 21, .ref 22, .ref 24, .ref 27])) := hc.1.at 0 rfl
  have h4 : sw[3]? = some (.inr (4, [.ref (3 + 1), .ref (3 + 2), .ref (3 + 3), .ref (3 + 4), .int (nI s.2.2.2.2)])) := hc.2.1.at 0 rfl
  refine gv_S.go rfl ?_
  refine t_X7_isPlace_0 (t_X7_isPlace_1 h7 rfl (t_X7_isPlace_4 (t_X7_isPlace_5 h4 (Nat.le_of_ble_eq_true rfl) (sp_X4_hasLine x hc.2.1 hc.2.2.2.2.2.2.1 (fun l hl e => ?_) (fun h => ?_)))))
  · refine t_X7_isPlace_8 (fun h => absurd h (by decide)) (fun _ => ?_)
    refine t_X7_isPlace_11 (t_X7_isPlace_12 (Nat.le_of_ble_eq_true rfl) (sp_X7_isNeedle y (fun k hk e2 => ?_) (fun h => ?_)))
    · refine t_X7_isPlace_15 (fun h => absurd h (by decide)) (fun _ => ?_)
      refine t_X7_isPlace_18 (t_X7_isPlace_19 (Nat.le_of_ble_eq_true rfl) (sp_X7_isColumn z (fun c hcc e3 => ?_) (fun h => ?_)))
      · refine t_X7_isPlace_22 (fun h => absurd h (by decide)) (fun _ => ?_)
        refine t_X7_isPlace_25 (t_X7_isPlace_26 (t_X7_isPlace_30 rfl ?_))
        exact h1 l k c hl hk hcc e e2 e3
      · refine t_X7_isPlace_22 (fun _ => ?_) (fun h => absurd rfl h)
        refine t_X7_isPlace_29 (t_X7_isPlace_30 rfl ?_)
        exact h0 (fun ⟨_, _, c, _, _, q, _, _, q2⟩ => h c q q2)
    · refine t_X7_isPlace_15 (fun _ => ?_) (fun h => absurd rfl h)
      refine t_X7_isPlace_29 (t_X7_isPlace_30 rfl ?_)
      exact h0 (fun ⟨_, k, _, _, q, _, _, q2, _⟩ => h k q q2)
  · refine t_X7_isPlace_8 (fun _ => ?_) (fun h => absurd rfl h)
    refine t_X7_isPlace_29 (t_X7_isPlace_30 rfl ?_)
    exact h0 (fun ⟨l, _, _, q, _, _, q2, _, _⟩ => h l q q2)
theorem sp_X7_pass (x y z : Int32) (hc : cls s sw) (hs : scr sw) (h1 : ∀ l k c, l < s.2.2.2.2 → k < 8 → c < 24 → x = nI l → y = nI k → z = nI c → ∀ sw', scr sw' → same 22 12 sw sw' → Qs (some (.int (if dotB (inkN s l) k c = true then nI (pas (dotB (inkN s l) k) (s.1 1) c) else -9))) sw') (h0 : ¬ (∃ l k c, l < s.2.2.2.2 ∧ k < 8 ∧ c < 24 ∧ x = nI l ∧ y = nI k ∧ z = nI c) → Qs (some (.int (-1))) sw) : gv_S ε (d + 3) m_X7_pass [.ref 0, .int x, .int y, .int z] sw Qs := by
  obtain ⟨J0, A0, lt0, co0, hs1, hs2, hs3⟩ := id hs
  have h7 : sw[0]? = some (.inr (7, [.ref 1, .ref 3, .ref 8, .ref 13, .ref 17, .ref 20, .ref 21, .ref 22, .ref 24, .ref 27])) := hc.1.at 0 rfl
  have h6 : sw[22]? = some (.inr (6, [.ref 23])) := hs1.at 0 rfl
  refine gv_S.go rfl ?_
  refine t_X7_pass_0 (t_X7_pass_1 (t_X7_pass_2 (t_X7_pass_3 (t_X7_pass_4 h7 (Nat.le_of_ble_eq_true rfl) (sp_X7_isPlace x y z hc (fun l k c hl hk hcc e1 e2 e3 => ?_) (fun h => ?_))))))
  · subst e1
    subst e2
    subst e3
    refine t_X7_pass_7 (fun _ => ?_) (fun h => absurd h (by decide))
    refine t_X7_pass_12 (t_X7_pass_13 h7 rfl (t_X7_pass_16 (t_X7_pass_17 h7 rfl (t_X7_pass_20 (t_X7_pass_21 h6 (Nat.le_of_ble_eq_true rfl) (sp_X6_lay l hs1 hc.2.1 hc.2.2 hl (fun J sw1 hJ hw1 hsm1 => ?_)))))))
    have hJ255 : ∀ c, c < 24 → J c ≤ 255 := fun c hcc => by rw [hJ c hcc]; exact inkN_le hc.2.2 l c
    have hsc1 := hs.st hw1 hsm1
    have hsm1' := hsm1.wide (b' := 22) (n' := 12) (by decide) (by decide)
    have hc1 := hc.keep hsm1'
    obtain ⟨J1, A1, lt1, co1, g1, g2, g3⟩ := id hsc1
    have k7 : sw1[0]? = some (.inr (7, [.ref 1, .ref 3, .ref 8, .ref 13, .ref 17, .ref 20, .ref 21, .ref 22, .ref 24, .ref 27])) := hc1.1.at 0 rfl
    have k4 : sw1[3]? = some (.inr (4, [.ref (3 + 1), .ref (3 + 2), .ref (3 + 3), .ref (3 + 4), .int (nI s.2.2.2.2)])) := hc1.2.1.at 0 rfl
    have hset : sw1[4]? = some (.inl (0, 3, .inl (fun i => nI (s.1 i)))) := hc1.2.1.at 1 rfl
    have k1 : sw1[24]? = some (.inr (1, [.ref 25, .ref 26])) := g2.at 0 rfl
    refine t_X7_pass_24 (t_X7_pass_25 k7 rfl (t_X7_pass_28 (t_X7_pass_29 k7 rfl (t_X7_pass_32 (t_X7_pass_33 k7 rfl (t_X7_pass_36 k4 rfl (t_X7_pass_39 (t_X7_pass_40 hset 1 (by decide) rfl (by decide) (t_X7_pass_41 (t_X7_pass_42 k1 (Nat.le_of_ble_eq_true rfl) (sp_X1_deal k (s.1 1) hw1 hJ255 g2 hk hc.2.2.2.1 (fun A lt sw2 hA hw2 hsm2 => ?_))))))))))))
    have hsm2' := hsm1'.tr (hsm2.wide (b' := 22) (n' := 12) (by decide) (by decide))
    have hc2 := hc.keep hsm2'
    have j7 : sw2[0]? = some (.inr (7, [.ref 1, .ref 3, .ref 8, .ref 13, .ref 17, .ref 20, .ref 21, .ref 22, .ref 24, .ref 27])) := hc2.1.at 0 rfl
    have j1 : sw2[24]? = some (.inr (1, [.ref 25, .ref 26])) := hw2.at 0 rfl
    have jA : sw2[25]? = some (.inl (0, 24, .inl A)) := hw2.at 1 rfl
    refine t_X7_pass_45 rfl (t_X7_pass_46 (t_X7_pass_47 j7 rfl (t_X7_pass_50 j1 rfl (t_X7_pass_53 (t_X7_pass_54 jA c hcc rfl (by decide) (t_X7_pass_55 ?_))))))
    rw [hA c hcc]
    have hd : dotB J k c = dotB (inkN s l) k c := dotB_cong hJ k c hcc
    have := h1 l k c hl hk hcc rfl rfl rfl sw2 (hsc1.dl hw2 hsm2) hsm2'
    by_cases q : dotB (inkN s l) k c = true
    · rw [if_pos q] at this
      rw [if_pos (hd.trans q), pas_cong (dotB_cong hJ k) c hcc (hd.trans q)]
      exact this
    · rw [if_neg q] at this
      rw [if_neg (fun z => q (hd.symm.trans z))]
      exact this
  · refine t_X7_pass_7 (fun h => absurd rfl h) (fun _ => ?_)
    refine t_X7_pass_10 (t_X7_pass_11 ?_)
    exact h0 h
/-- where the head stands -/
def headI (s : shT) (k c : Nat) : Int32 := if k % 2 = 0 then nI c else nI c - nI (s.1 0)
theorem sp_X4_headAt {b : Nat} (k c : Nat) (hw : wt b (shF b s) sw) (hk : k < 8) (hcc : c < 24) (hq : Qs (some (.int (headI s k c))) sw) : gv_S ε d m_X4_headAt [.ref b, .int (nI k), .int (nI c)] sw Qs := by
  have h4 : sw[b]? = some (.inr (4, [.ref (b + 1), .ref (b + 2), .ref (b + 3), .ref (b + 4), .int (nI s.2.2.2.2)])) := hw.at 0 rfl
  have hset : sw[b + 1]? = some (.inl (0, 3, .inl (fun i => nI (s.1 i)))) := hw.at 1 rfl
  refine gv_S.go rfl ?_
  unfold headI at hq
  refine t_X4_headAt_0 (t_X4_headAt_1 (t_X4_headAt_2N (by omega) (by decide) (by decide) (t_X4_headAt_3N (by omega) (fun h => ?_) (fun h => ?_))))
  · refine t_X4_headAt_10 (t_X4_headAt_11 (t_X4_headAt_12 h4 rfl (t_X4_headAt_15 (t_X4_headAt_16 hset 0 (by decide) rfl (by decide) (t_X4_headAt_17 (t_X4_headAt_18 ?_))))))
    rw [if_neg (by omega)] at hq
    exact hq
  · refine t_X4_headAt_6 (t_X4_headAt_7 (t_X4_headAt_18 ?_))
    rw [if_pos h] at hq
    exact hq
theorem sp_X7_stands (x y z : Int32) (hc : cls s sw) (hs : scr sw) (h1 : ∀ l k c, l < s.2.2.2.2 → k < 8 → c < 24 → x = nI l → y = nI k → z = nI c → ∀ sw', scr sw' → same 22 12 sw sw' → Qs (some (.int (if dotB (inkN s l) k c = true then headI s k c else -1000000))) sw') (h0 : ¬ (∃ l k c, l < s.2.2.2.2 ∧ k < 8 ∧ c < 24 ∧ x = nI l ∧ y = nI k ∧ z = nI c) → Qs (some (.int (-1000000))) sw) : gv_S ε (d + 3) m_X7_stands [.ref 0, .int x, .int y, .int z] sw Qs := by
  obtain ⟨J0, A0, lt0, co0, hs1, hs2, hs3⟩ := id hs
  have h7 : sw[0]? = some (.inr (7, [.ref 1, .ref 3, .ref 8, .ref 13, .ref 17, .ref 20, .ref 21, .ref 22, .ref 24, .ref 27])) := hc.1.at 0 rfl
  have h6 : sw[22]? = some (.inr (6, [.ref 23])) := hs1.at 0 rfl
  refine gv_S.go rfl ?_
  refine t_X7_stands_0 (t_X7_stands_1 (t_X7_stands_2 (t_X7_stands_3 (t_X7_stands_4 h7 (Nat.le_of_ble_eq_true rfl) (sp_X7_isPlace x y z hc (fun l k c hl hk hcc e1 e2 e3 => ?_) (fun h => ?_))))))
  · subst e1
    subst e2
    subst e3
    refine t_X7_stands_7 (fun _ => ?_) (fun h => absurd h (by decide))
    refine t_X7_stands_13 (t_X7_stands_14 h7 rfl (t_X7_stands_17 (t_X7_stands_18 h7 rfl (t_X7_stands_21 (t_X7_stands_22 h6 (Nat.le_of_ble_eq_true rfl) (sp_X6_lay l hs1 hc.2.1 hc.2.2 hl (fun J sw1 hJ hw1 hsm1 => ?_)))))))
    have hJ255 : ∀ c, c < 24 → J c ≤ 255 := fun c hcc => by rw [hJ c hcc]; exact inkN_le hc.2.2 l c
    have hsc1 := hs.st hw1 hsm1
    have hsm1' := hsm1.wide (b' := 22) (n' := 12) (by decide) (by decide)
    have hc1 := hc.keep hsm1'
    have k7 : sw1[0]? = some (.inr (7, [.ref 1, .ref 3, .ref 8, .ref 13, .ref 17, .ref 20, .ref 21, .ref 22, .ref 24, .ref 27])) := hc1.1.at 0 rfl
    have k4 : sw1[3]? = some (.inr (4, [.ref (3 + 1), .ref (3 + 2), .ref (3 + 3), .ref (3 + 4), .int (nI s.2.2.2.2)])) := hc1.2.1.at 0 rfl
    have k6 : sw1[22]? = some (.inr (6, [.ref 23])) := hw1.at 0 rfl
    refine t_X7_stands_25 (t_X7_stands_26 k7 rfl (t_X7_stands_29 (t_X7_stands_30 (t_X7_stands_31 k6 (Nat.le_of_ble_eq_true rfl) (sp_X6_hasDot k c hw1 hJ255 hk (by omega) ?_)))))
    have hd : dotB J k c = dotB (inkN s l) k c := dotB_cong hJ k c hcc
    have := h1 l k c hl hk hcc rfl rfl rfl sw1 hsc1 hsm1'
    by_cases q : dotB (inkN s l) k c = true
    · rw [if_pos q] at this
      rw [if_pos ⟨hcc, hd.trans q⟩]
      refine t_X7_stands_34 (fun h => absurd h (by decide)) (fun _ => ?_)
      refine t_X7_stands_37 (t_X7_stands_38 k7 rfl (t_X7_stands_41 (t_X7_stands_42 (t_X7_stands_43 k4 (Nat.le_of_ble_eq_true rfl) (sp_X4_headAt k c hc1.2.1 hk hcc ?_)))))
      refine t_X7_stands_46 (t_X7_stands_51 ?_)
      exact this
    · rw [if_neg q] at this
      rw [if_neg (fun z => q (hd.symm.trans z.2))]
      refine t_X7_stands_34 (fun _ => ?_) (fun h => absurd rfl h)
      refine t_X7_stands_49 (t_X7_stands_51 ?_)
      exact this
  · refine t_X7_stands_7 (fun h => absurd rfl h) (fun _ => ?_)
    refine t_X7_stands_10 (t_X7_stands_12 ?_)
    exact h0 h
end S7
