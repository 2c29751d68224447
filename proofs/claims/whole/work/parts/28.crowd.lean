/-! crowds, and the rest by which one pass is enough -/
def fMax (f : Nat → Nat) (n m a : Nat) : Prop := (∀ q, q < n → f q ≤ m) ∧ (m = 0 ∨ (a < n ∧ f a = m ∧ ∀ q, q < a → f q < m))
theorem fMax_uniq {f : Nat → Nat} {n m a m' a' : Nat} (h : fMax f n m a) (h' : fMax f n m' a') : m = m' ∧ (m ≠ 0 → a = a') := by
  obtain ⟨h1, h2⟩ := h
  obtain ⟨g1, g2⟩ := h'
  have e : m = m' := by
    rcases h2 with z | ⟨z1, z2, -⟩
    · rcases g2 with y | ⟨y1, y2, -⟩
      · omega
      · have := h1 a' y1
        omega
    · rcases g2 with y | ⟨y1, y2, -⟩
      · have := g1 a z1
        omega
      · have := h1 a' y1
        have := g1 a z1
        omega
  refine ⟨e, fun hm => ?_⟩
  obtain ⟨z1, z2, z3⟩ := h2.resolve_left hm
  obtain ⟨y1, y2, y3⟩ := g2.resolve_left (by omega)
  rcases Nat.lt_trichotomy a a' with q | q | q
  · have := y3 a q
    omega
  · exact q
  · have := z3 a' q
    omega
theorem fMax_up {f : Nat → Nat} {n m a : Nat} (h : fMax f n m a) (hn : m < f n) : fMax f (n + 1) (f n) n := by
  refine ⟨fun q hq => ?_, Or.inr ⟨by omega, rfl, fun q hq => ?_⟩⟩
  · rcases Nat.lt_or_ge q n with z | z
    · have := h.1 q z
      omega
    · rw [show q = n by omega]
      exact Nat.le_refl _
  · have := h.1 q hq
    omega
theorem fMax_no {f : Nat → Nat} {n m a : Nat} (h : fMax f n m a) (hn : f n ≤ m) : fMax f (n + 1) m a := by
  refine ⟨fun q hq => ?_, h.2.imp id (fun z => ⟨by omega, z.2⟩)⟩
  rcases Nat.lt_or_ge q n with z | z
  · exact h.1 q z
  · rw [show q = n by omega]
    exact hn
theorem fMax_cong {f g : Nat → Nat} {n m a : Nat} (h : fMax f n m a) (e : ∀ q, q < n → f q = g q) : fMax g n m a := by
  refine ⟨fun q hq => by rw [← e q hq]; exact h.1 q hq, h.2.imp id (fun z => ⟨z.1, by rw [← e a z.1]; exact z.2.1, fun q hq => by rw [← e q (by omega)]; exact z.2.2 q hq⟩)⟩
def crV (J : Nat → Nat) (r p : Nat) : Nat := cntN (fun c => decide (c < 24 ∧ dotB J (p / 24) c = true)) (p % 24) (r + 1)
theorem crV_cong {J J' : Nat → Nat} (h : ∀ c, c < 24 → J c = J' c) (r p : Nat) : crV J r p = crV J' r p := by
  refine cntN_cong (fun i _ => ?_)
  by_cases q : p % 24 + i < 24
  · have := dotB_cong h (p / 24) _ q
    simp only [this]
  · simp [q]
def crI (m a w : Nat) : Int32 := if w = 0 then nI m else if m = 0 then -9 else if w = 1 then nI (a / 24) else nI (a % 24)
def isE (J : Nat → Nat) (e : Nat) : Prop := ∀ k, k < 8 → ∀ i j, i < j → j < 24 → dotB J k i = true → dotB J k j = true → e < j - i
def ezP (J : Nat → Nat) (e : Nat) : Prop := e ≤ 9 ∧ isE J e ∧ (e = 9 ∨ ¬ isE J (e + 1))
theorem ezP_uniq {J : Nat → Nat} {e e' : Nat} (h : ezP J e) (h' : ezP J e') : e = e' := by
  have key : ∀ a b, a < b → b ≤ 9 → isE J b → ezP J a → False := by
    intro a b hab hb hE ha
    rcases ha.2.2 with z | z
    · omega
    · refine z (fun k hk i j hij hj h1 h2 => ?_)
      have := hE k hk i j hij hj h1 h2
      omega
  rcases Nat.lt_trichotomy e e' with q | q | q
  · exact absurd h (fun z => key e e' q h'.1 h'.2.1 z)
  · exact q
  · exact absurd h' (fun z => key e' e q h.1 h.2.1 z)
theorem isE_cong {J J' : Nat → Nat} (h : ∀ c, c < 24 → J c = J' c) {e : Nat} : isE J e ↔ isE J' e := by
  constructor
  · intro g k hk i j hij hj h1 h2
    exact g k hk i j hij hj (by rw [dotB_cong h k i (by omega)]; exact h1) (by rw [dotB_cong h k j hj]; exact h2)
  · intro g k hk i j hij hj h1 h2
    exact g k hk i j hij hj (by rw [← dotB_cong h k i (by omega)]; exact h1) (by rw [← dotB_cong h k j hj]; exact h2)
theorem ezP_cong {J J' : Nat → Nat} (h : ∀ c, c < 24 → J c = J' c) {e : Nat} (g : ezP J e) : ezP J' e := ⟨g.1, (isE_cong h).mp g.2.1, g.2.2.imp id (fun z y => z ((isE_cong h).mpr y))⟩
def gapP (D : Nat → Bool) (n g : Nat) : Prop := 1 ≤ g ∧ g ≤ 24 ∧ (∀ i j, i < j → j < n → D i = true → D j = true → g ≤ j - i) ∧ (g = 24 ∨ ∃ i j, i < j ∧ j < n ∧ D i = true ∧ D j = true ∧ j - i = g)
theorem sub24 : ∀ c, c < 24 → nI c - (-24) = nI (c + 24) := by decide +kernel
section S7
variable {ε : gv_E} {d : Nat} {Qs : Option Value → List va_E → Prop} {sw : List va_E} {s : shT}
theorem sp_X7_crowd (x y : Int32) (hc : cls s sw) (hs : scr sw) (h1 : ∀ l w m a, l < s.2.2.2.2 → w ≤ 2 → x = nI l → y = nI w → fMax (crV (inkN s l) (s.1 1)) 192 m a → ∀ sw', scr sw' → same 22 12 sw sw' → Qs (some (.int (crI m a w))) sw') (h0 : ¬ (∃ l w, l < s.2.2.2.2 ∧ w ≤ 2 ∧ x = nI l ∧ y = nI w) → Qs (some (.int (-1))) sw) : gv_S ε (d + 3) m_X7_crowd [.ref 0, .int x, .int y] sw Qs := by
  obtain ⟨J0, A0, lt0, co0, hs1, hs2, hs3⟩ := id hs
  have h7 : sw[0]? = some (.inr (7, [.ref 1, .ref 3, .ref 8, .ref 13, .ref 17, .ref 20, .ref 21, .ref 22, .ref 24, .ref 27])) := hc.1.at 0 rfl
  have h4 : sw[3]? = some (.inr (4, [.ref (3 + 1), .ref (3 + 2), .ref (3 + 3), .ref (3 + 4), .int (nI s.2.2.2.2)])) := hc.2.1.at 0 rfl
  have h6 : sw[22]? = some (.inr (6, [.ref 23])) := hs1.at 0 rfl
  have hr := hc.2.2.2.1
  refine gv_S.go rfl ?_
  refine t_X7_crowd_0 (t_X7_crowd_1 h7 rfl (t_X7_crowd_4 (t_X7_crowd_5 h4 (Nat.le_of_ble_eq_true rfl) (sp_X4_hasLine x hc.2.1 hc.2.2.2.2.2.2.1 (fun l hl e => ?_) (fun h => ?_)))))
  · subst e
    refine t_X7_crowd_8 (fun h => absurd h (by decide)) (fun _ => ?_)
    refine t_X7_crowd_11 (t_X7_crowd_12 (fun h => ?_) (fun h => ?_))
    · refine t_X7_crowd_20 (t_X7_crowd_21 ?_)
      refine h0 (fun ⟨_, w, _, q, _, q2⟩ => ?_)
      rw [q2] at h
      exact nI_pos (by omega) h
    · refine t_X7_crowd_15 (t_X7_crowd_16 (t_X7_crowd_17 (fun g => ?_) (fun g => ?_)))
      · obtain ⟨w, hw, ew⟩ : ∃ w, w ≤ 2 ∧ y = nI w := by
          obtain ⟨j, hj, e⟩ := nI_of h
          subst e
          exact ⟨j, (nI_leI hj (by decide)).mp g, rfl⟩
        subst ew
        refine t_X7_crowd_22 (t_X7_crowd_23 h7 rfl (t_X7_crowd_26 (t_X7_crowd_27 h7 rfl (t_X7_crowd_30 (t_X7_crowd_31 h6 (Nat.le_of_ble_eq_true rfl) (sp_X6_lay l hs1 hc.2.1 hc.2.2 hl (fun J sw1 hJ hw1 hsm1 => ?_)))))))
        have hJ255 : ∀ c, c < 24 → J c ≤ 255 := fun c hcc => by rw [hJ c hcc]; exact inkN_le hc.2.2 l c
        have hsc1 := hs.st hw1 hsm1
        have hsm1' := hsm1.wide (b' := 22) (n' := 12) (by decide) (by decide)
        have hc1 := hc.keep hsm1'
        have k7 : sw1[0]? = some (.inr (7, [.ref 1, .ref 3, .ref 8, .ref 13, .ref 17, .ref 20, .ref 21, .ref 22, .ref 24, .ref 27])) := hc1.1.at 0 rfl
        have k4 : sw1[3]? = some (.inr (4, [.ref (3 + 1), .ref (3 + 2), .ref (3 + 3), .ref (3 + 4), .int (nI s.2.2.2.2)])) := hc1.2.1.at 0 rfl
        have hset : sw1[4]? = some (.inl (0, 3, .inl (fun i => nI (s.1 i)))) := hc1.2.1.at 1 rfl
        have k6 : sw1[22]? = some (.inr (6, [.ref 23])) := hw1.at 0 rfl
        have inner : ∀ (n c k m a : Nat) (a8 : Option Value), c + n = 24 → k < 8 → m < 100 → fMax (crV J (s.1 1)) (24 * k + c) m a → (∀ m a a8, m < 100 → fMax (crV J (s.1 1)) (24 * (k + 1)) m a → gv_M ε (d + 3) m_X7_crowd sw.length Qs 111 [some (.ref 0), some (.int (nI l)), some (.int (nI w)), some (.int (nI m)), some (.int (if m = 0 then -9 else nI (a / 24))), some (.int (if m = 0 then -9 else nI (a % 24))), some (.int (nI k)), some (.int (nI 24)), a8] [] sw1 0 0) → gv_M ε (d + 3) m_X7_crowd sw.length Qs 57 [some (.ref 0), some (.int (nI l)), some (.int (nI w)), some (.int (nI m)), some (.int (if m = 0 then -9 else nI (a / 24))), some (.int (if m = 0 then -9 else nI (a % 24))), some (.int (nI k)), some (.int (nI c)), a8] [] sw1 0 0 := by
          intro n
          induction n with
          | zero =>
            intro c k m a a8 hcn hk hm hf kk
            refine t_X7_crowd_57 (t_X7_crowd_59 (t_X7_crowd_61N (by omega) (by omega) (fun h => ?_) (fun h => absurd h (by omega))))
            have e : c = 24 := by omega
            subst e
            exact kk m a a8 hm hf
          | succ n ih =>
            intro c k m a a8 hcn hk hm hf kk
            have e1 : (24 * k + c) / 24 = k := by omega
            have e2 : (24 * k + c) % 24 = c := by omega
            have ev : crV J (s.1 1) (24 * k + c) = cntN (fun c => decide (c < 24 ∧ dotB J k c = true)) c (s.1 1 + 1) := by
              unfold crV
              rw [e1, e2]
            have hle := cntN_le (fun c => decide (c < 24 ∧ dotB J k c = true)) c (s.1 1 + 1)
            refine t_X7_crowd_57 (t_X7_crowd_59 (t_X7_crowd_61N (by omega) (by omega) (fun h => absurd h (by omega)) (fun h => ?_)))
            refine t_X7_crowd_64 (t_X7_crowd_65 k7 rfl (t_X7_crowd_68 (t_X7_crowd_70 (t_X7_crowd_72 (t_X7_crowd_73 k7 rfl (t_X7_crowd_76 k4 rfl (t_X7_crowd_79 (t_X7_crowd_80 hset 1 (by decide) rfl (by decide) (t_X7_crowd_81 (t_X7_crowd_82N (t_X7_crowd_83 k6 (Nat.le_of_ble_eq_true rfl) (sp_X6_amountFrom k c (s.1 1 + 1) hw1 hJ255 hk (by omega) ?_))))))))))))
            rw [← ev]
            rw [← ev] at hle
            refine t_X7_crowd_86 (t_X7_crowd_88 (t_X7_crowd_90 (t_X7_crowd_91N (by omega) (by omega) (fun g => ?_) (fun g => ?_))))
            · refine t_X7_crowd_105N (t_X7_crowd_108 (?_))
              exact ih (c + 1) k m a _ (by omega) hk hm (fMax_no hf g) kk
            · refine t_X7_crowd_94 (t_X7_crowd_96 (t_X7_crowd_97 (t_X7_crowd_99 (t_X7_crowd_101 (t_X7_crowd_103 (t_X7_crowd_105N (t_X7_crowd_108 (?_))))))))
              have g' : m < crV J (s.1 1) (24 * k + c) := g
              have hle' : crV J (s.1 1) (24 * k + c) ≤ s.1 1 + 1 := hle
              have := ih (c + 1) k (crV J (s.1 1) (24 * k + c)) (24 * k + c) (some (.int (nI (crV J (s.1 1) (24 * k + c))))) (by omega) hk (by omega) (fMax_up hf g') kk
              rw [if_neg (by omega), if_neg (by omega), e1, e2] at this
              exact this
        have outer : ∀ (n k m a : Nat) (a7 a8 : Option Value), k + n = 8 → m < 100 → fMax (crV J (s.1 1)) (24 * k) m a → gv_M ε (d + 3) m_X7_crowd sw.length Qs 47 [some (.ref 0), some (.int (nI l)), some (.int (nI w)), some (.int (nI m)), some (.int (if m = 0 then -9 else nI (a / 24))), some (.int (if m = 0 then -9 else nI (a % 24))), some (.int (nI k)), a7, a8] [] sw1 0 0 := by
          intro n
          induction n with
          | zero =>
            intro k m a a7 a8 hkn hm hf
            have e : k = 8 := by omega
            subst e
            have fin := h1 l w m a hl hw rfl rfl (fMax_cong hf (fun q _ => crV_cong hJ _ q)) sw1 hsc1 hsm1'
            refine t_X7_crowd_47 (t_X7_crowd_49 (t_X7_crowd_51N (by omega) (by omega) (fun h => ?_) (fun h => absurd h (by omega))))
            refine t_X7_crowd_117 (t_X7_crowd_118N (by omega) (fun g => ?_) (fun g => ?_))
            · refine t_X7_crowd_123 (t_X7_crowd_124 (t_X7_crowd_125N (by omega) (by omega) (fun z => ?_) (fun z => ?_)))
              · refine t_X7_crowd_133 (t_X7_crowd_135 ?_)
                unfold crI at fin
                rw [if_neg (by omega)] at fin
                by_cases q : m = 0
                · rw [if_pos q] at fin ⊢
                  exact fin
                · rw [if_neg q, if_neg z] at fin
                  rw [if_neg q]
                  exact fin
              · refine t_X7_crowd_128 (t_X7_crowd_130 (t_X7_crowd_135 ?_))
                unfold crI at fin
                rw [if_neg (by omega)] at fin
                by_cases q : m = 0
                · rw [if_pos q] at fin ⊢
                  exact fin
                · rw [if_neg q, if_pos z] at fin
                  rw [if_neg q]
                  exact fin
            · refine t_X7_crowd_121 (t_X7_crowd_122 ?_)
              unfold crI at fin
              rw [if_pos g] at fin
              exact fin
          | succ n ih =>
            intro k m a a7 a8 hkn hm hf
            refine t_X7_crowd_47 (t_X7_crowd_49 (t_X7_crowd_51N (by omega) (by omega) (fun h => absurd h (by omega)) (fun h => ?_)))
            refine t_X7_crowd_54 (t_X7_crowd_55 (?_))
            refine inner 24 0 k m a _ (by decide) (by omega) hm hf (fun m a a8 hm hf => ?_)
            refine t_X7_crowd_111N (t_X7_crowd_114 (?_))
            exact ih (k + 1) m a _ _ (by omega) hm hf
        refine t_X7_crowd_34 (t_X7_crowd_35 (t_X7_crowd_36 (t_X7_crowd_38 (t_X7_crowd_40 (t_X7_crowd_42 (t_X7_crowd_44 (t_X7_crowd_45 (?_))))))))
        exact outer 8 0 0 0 _ _ (by decide) (by decide) ⟨fun q hq => absurd hq (by omega), Or.inl rfl⟩
      · refine t_X7_crowd_20 (t_X7_crowd_21 ?_)
        refine h0 (fun ⟨_, w, _, q, _, q2⟩ => g ?_)
        rw [q2]
        exact nI_le q (by decide)
  · refine t_X7_crowd_8 (fun _ => ?_) (fun h => absurd rfl h)
    refine t_X7_crowd_20 (t_X7_crowd_21 ?_)
    exact h0 (fun ⟨l, _, q, _, q2, _⟩ => h l q q2)
theorem sp_X6_leastGap (k : Nat) {J : Nat → Nat} (hS : wt 22 (stF J) sw) (hJ : ∀ c, c < 24 → J c ≤ 255) (hk : k < 8) (hq : ∀ g, gapP (dotB J k) 24 g → Qs (some (.int (nI g))) sw) : gv_S ε (d + 2) m_X6_leastGap [.ref 22, .int (nI k)] sw Qs := by
  have h6 : sw[22]? = some (.inr (6, [.ref 23])) := hS.at 0 rfl
  have loop : ∀ (n c g : Nat) (z : Int32), c + n = 24 → gapP (dotB J k) c g → ((z = -24 ∧ ∀ i, i < c → dotB J k i = false) ∨ ∃ i, i < c ∧ z = nI i ∧ dotB J k i = true ∧ ∀ j, i < j → j < c → dotB J k j = false) → gv_M ε (d + 2) m_X6_leastGap sw.length Qs 9 [some (.ref 22), some (.int (nI k)), some (.int (nI g)), some (.int z), some (.int (nI c))] [] sw 0 0 := by
    intro n
    induction n with
    | zero =>
      intro c g z hc hg hz
      refine t_X6_leastGap_9 (t_X6_leastGap_11 (t_X6_leastGap_13N (by omega) (by omega) (fun h => ?_) (fun h => absurd h (by omega))))
      refine t_X6_leastGap_44 (t_X6_leastGap_45 ?_)
      have e : c = 24 := by omega
      subst e
      exact hq g hg
    | succ n ih =>
      intro c g z hc hg hz
      refine t_X6_leastGap_9 (t_X6_leastGap_11 (t_X6_leastGap_13N (by omega) (by omega) (fun h => absurd h (by omega)) (fun h => ?_)))
      refine t_X6_leastGap_16 (t_X6_leastGap_17 (t_X6_leastGap_18 (t_X6_leastGap_20 h6 (Nat.le_of_ble_eq_true rfl) (sp_X6_hasDot k c hS hJ hk (by omega) ?_))))
      obtain ⟨g1, g2, g3, g4⟩ := hg
      by_cases hd : dotB J k c = true
      · rw [if_pos ⟨by omega, hd⟩]
        refine t_X6_leastGap_23 (fun h => absurd h (by decide)) (fun _ => ?_)
        rcases hz with ⟨rfl, hno⟩ | ⟨i, hi, rfl, hdi, hno⟩
        · refine t_X6_leastGap_26 (t_X6_leastGap_27 (t_X6_leastGap_29 (t_X6_leastGap_30 (?_))))
          rw [sub24 c (by omega)]
          refine t_X6_leastGap_31N (Nat.le_of_ble_eq_true rfl) (by omega) (by omega) (t_X6_leastGap_34 (t_X6_leastGap_35 (t_X6_leastGap_37 (t_X6_leastGap_38N (t_X6_leastGap_41 (?_))))))
          rw [Nat.min_eq_left (by omega)]
          refine ih (c + 1) g _ (by omega) ⟨g1, g2, fun i j hij hj h1 h2 => ?_, g4.imp id (fun ⟨i, j, a, b, e⟩ => ⟨i, j, a, by omega, e⟩)⟩ (Or.inr ⟨c, by omega, rfl, hd, fun j h1 h2 => by omega⟩)
          rcases Nat.lt_or_ge j c with q | q
          · exact g3 i j hij q h1 h2
          · rw [hno i (by omega)] at h1
            cases h1
        · refine t_X6_leastGap_26 (t_X6_leastGap_27 (t_X6_leastGap_29 (t_X6_leastGap_30N (by omega) (t_X6_leastGap_31N (Nat.le_of_ble_eq_true rfl) (by omega) (by omega) (t_X6_leastGap_34 (t_X6_leastGap_35 (t_X6_leastGap_37 (t_X6_leastGap_38N (t_X6_leastGap_41 (?_))))))))))
          refine ih (c + 1) _ _ (by omega) ⟨by omega, by omega, fun i' j hij hj h1 h2 => ?_, ?_⟩ (Or.inr ⟨c, by omega, rfl, hd, fun j h1 h2 => by omega⟩)
          · rcases Nat.lt_or_ge j c with q | q
            · have := g3 i' j hij q h1 h2
              omega
            · have : i' ≤ i := by
                rcases Nat.lt_or_ge i i' with y | y
                · rw [hno i' y (by omega)] at h1
                  cases h1
                · exact y
              omega
          · rcases Nat.le_total g (c - i) with y | y
            · rw [Nat.min_eq_left y]
              exact g4.imp id (fun ⟨i, j, a, b, e⟩ => ⟨i, j, a, by omega, e⟩)
            · rw [Nat.min_eq_right y]
              exact Or.inr ⟨i, c, hi, by omega, hdi, hd, rfl⟩
      · rw [if_neg (fun q => hd q.2)]
        refine t_X6_leastGap_23 (fun _ => ?_) (fun h => absurd rfl h)
        refine t_X6_leastGap_38N (t_X6_leastGap_41 (?_))
        have hdf : dotB J k c = false := by simpa using hd
        refine ih (c + 1) g z (by omega) ⟨g1, g2, fun i j hij hj h1 h2 => ?_, g4.imp id (fun ⟨i, j, a, b, e⟩ => ⟨i, j, a, by omega, e⟩)⟩ ?_
        · rcases Nat.lt_or_ge j c with q | q
          · exact g3 i j hij q h1 h2
          · rw [show j = c by omega, hdf] at h2
            cases h2
        · rcases hz with ⟨e, hno⟩ | ⟨i, hi, e, hdi, hno⟩
          · refine Or.inl ⟨e, fun i hi => ?_⟩
            rcases Nat.lt_or_ge i c with q | q
            · exact hno i q
            · rw [show i = c by omega]
              exact hdf
          · refine Or.inr ⟨i, by omega, e, hdi, fun j h1 h2 => ?_⟩
            rcases Nat.lt_or_ge j c with q | q
            · exact hno j h1 q
            · rw [show j = c by omega]
              exact hdf
  refine gv_S.go rfl ?_
  refine t_X6_leastGap_0 (t_X6_leastGap_2 (t_X6_leastGap_3 (t_X6_leastGap_5 (t_X6_leastGap_6 (t_X6_leastGap_7 (?_))))))
  exact loop 24 0 24 (-24) (by decide) ⟨by decide, by decide, fun i j _ hj => absurd hj (by omega), Or.inl rfl⟩ (Or.inl ⟨rfl, fun i hi => absurd hi (by omega)⟩)
theorem sp_X7_easy (x : Int32) (hc : cls s sw) (hs : scr sw) (h1 : ∀ l e, l < s.2.2.2.2 → x = nI l → ezP (inkN s l) e → ∀ sw', scr sw' → same 22 12 sw sw' → Qs (some (.int (nI e))) sw') (h0 : (∀ l, l < s.2.2.2.2 → x ≠ nI l) → Qs (some (.int (-1))) sw) : gv_S ε (d + 3) m_X7_easy [.ref 0, .int x] sw Qs := by
  obtain ⟨J0, A0, lt0, co0, hs1, hs2, hs3⟩ := id hs
  have h7 : sw[0]? = some (.inr (7, [.ref 1, .ref 3, .ref 8, .ref 13, .ref 17, .ref 20, .ref 21, .ref 22, .ref 24, .ref 27])) := hc.1.at 0 rfl
  have h4 : sw[3]? = some (.inr (4, [.ref (3 + 1), .ref (3 + 2), .ref (3 + 3), .ref (3 + 4), .int (nI s.2.2.2.2)])) := hc.2.1.at 0 rfl
  have h6 : sw[22]? = some (.inr (6, [.ref 23])) := hs1.at 0 rfl
  refine gv_S.go rfl ?_
  refine t_X7_easy_0 (t_X7_easy_1 h7 rfl (t_X7_easy_4 (t_X7_easy_5 h4 (Nat.le_of_ble_eq_true rfl) (sp_X4_hasLine x hc.2.1 hc.2.2.2.2.2.2.1 (fun l hl e => ?_) (fun h => ?_)))))
  · subst e
    refine t_X7_easy_8 (fun _ => ?_) (fun h => absurd h (by decide))
    refine t_X7_easy_13 (t_X7_easy_14 h7 rfl (t_X7_easy_17 (t_X7_easy_18 h7 rfl (t_X7_easy_21 (t_X7_easy_22 h6 (Nat.le_of_ble_eq_true rfl) (sp_X6_lay l hs1 hc.2.1 hc.2.2 hl (fun J sw1 hJ hw1 hsm1 => ?_)))))))
    have hJ255 : ∀ c, c < 24 → J c ≤ 255 := fun c hcc => by rw [hJ c hcc]; exact inkN_le hc.2.2 l c
    have hsc1 := hs.st hw1 hsm1
    have hsm1' := hsm1.wide (b' := 22) (n' := 12) (by decide) (by decide)
    have hc1 := hc.keep hsm1'
    have k7 : sw1[0]? = some (.inr (7, [.ref 1, .ref 3, .ref 8, .ref 13, .ref 17, .ref 20, .ref 21, .ref 22, .ref 24, .ref 27])) := hc1.1.at 0 rfl
    have k6 : sw1[22]? = some (.inr (6, [.ref 23])) := hw1.at 0 rfl
    have loop : ∀ (n k e : Nat), k + n = 8 → e ≤ 9 → (∀ k', k' < k → ∀ i j, i < j → j < 24 → dotB J k' i = true → dotB J k' j = true → e < j - i) → (e = 9 ∨ ∃ k' i j, k' < k ∧ i < j ∧ j < 24 ∧ dotB J k' i = true ∧ dotB J k' j = true ∧ j - i = e + 1) → gv_M ε (d + 3) m_X7_easy sw.length Qs 30 [some (.ref 0), some (.int (nI l)), some (.int (nI e)), some (.int (nI k))] [] sw1 0 0 := by
      intro n
      induction n with
      | zero =>
        intro k e hkn he hall hex
        refine t_X7_easy_30 (t_X7_easy_31 (t_X7_easy_33N (by omega) (by omega) (fun h => ?_) (fun h => absurd h (by omega))))
        refine t_X7_easy_57 (t_X7_easy_58 ?_)
        refine h1 l e hl rfl (ezP_cong hJ ⟨he, fun k hk => hall k (by omega), hex.imp id (fun ⟨k', i, j, a1, a2, a3, a4, a5, a6⟩ z => ?_)⟩) sw1 hsc1 hsm1'
        have := z k' (by omega) i j a2 a3 a4 a5
        omega
      | succ n ih =>
        intro k e hkn he hall hex
        refine t_X7_easy_30 (t_X7_easy_31 (t_X7_easy_33N (by omega) (by omega) (fun h => absurd h (by omega)) (fun h => ?_)))
        refine t_X7_easy_36 (t_X7_easy_37 (t_X7_easy_38 k7 rfl (t_X7_easy_41 (t_X7_easy_42 k6 (Nat.le_of_ble_eq_true rfl) (sp_X6_leastGap k hw1 hJ255 (by omega) (fun g hg => ?_))))))
        obtain ⟨g1, g2, g3, g4⟩ := hg
        refine t_X7_easy_45 (t_X7_easy_46N (by omega) (t_X7_easy_47N (Nat.le_of_ble_eq_true rfl) (by omega) (by omega) (t_X7_easy_50 (t_X7_easy_51N (t_X7_easy_54 (?_))))))
        refine ih (k + 1) _ (by omega) (by omega) (fun k' hk' i j hij hj h1 h2 => ?_) ?_
        · rcases Nat.lt_or_ge k' k with q | q
          · have := hall k' q i j hij hj h1 h2
            omega
          · have e2 : k' = k := by omega
            subst e2
            have := g3 i j hij hj h1 h2
            omega
        · rcases Nat.le_total e (g - 1) with y | y
          · rw [Nat.min_eq_left y]
            exact hex.imp id (fun ⟨k', i, j, a1, a2⟩ => ⟨k', i, j, by omega, a2⟩)
          · rw [Nat.min_eq_right y]
            rcases g4 with z | ⟨i, j, b1, b2, b3, b4, b5⟩
            · omega
            · exact Or.inr ⟨k, i, j, by omega, b1, b2, b3, b4, by omega⟩
    refine t_X7_easy_25 (t_X7_easy_27 (t_X7_easy_28 (t_X7_easy_29 (?_))))
    exact loop 8 0 9 (by decide) (by decide) (fun k' hk' => absurd hk' (by omega)) (Or.inl rfl)
  · refine t_X7_easy_8 (fun h => absurd rfl h) (fun _ => ?_)
    refine t_X7_easy_11 (t_X7_easy_12 ?_)
    exact h0 h
end S7
