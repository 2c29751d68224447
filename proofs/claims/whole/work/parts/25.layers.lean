/-! the model's passes -/
/-- the passes of a line: the most that a needle needs -/
noncomputable def npN (J : Nat → Nat) (r : Nat) : Nat → Nat
  | 0 => 0
  | k + 1 => max (npN J r k) (usedN (dotB J k) (pas (dotB J k) r) 24)
theorem npN_lt {J : Nat → Nat} {r p : Nat} : ∀ n, p < npN J r n ↔ ∃ k, k < n ∧ p < usedN (dotB J k) (pas (dotB J k) r) 24 := by
  intro n
  induction n with
  | zero =>
    constructor
    · intro h; unfold npN at h; omega
    · rintro ⟨k, hk, -⟩; omega
  | succ n ih =>
    unfold npN
    constructor
    · intro h
      rcases Nat.lt_or_ge p (npN J r n) with q | q
      · obtain ⟨k, h1, h2⟩ := ih.mp q
        exact ⟨k, by omega, h2⟩
      · exact ⟨n, by omega, by omega⟩
    · rintro ⟨k, h1, h2⟩
      by_cases q : k = n
      · subst q
        omega
      · have := ih.mpr ⟨k, by omega, h2⟩
        omega
theorem npN_le {J : Nat → Nat} {r : Nat} : ∀ n, npN J r n ≤ r + 1 := by
  intro n
  induction n with
  | zero => unfold npN; omega
  | succ n ih =>
    unfold npN
    have := usedN_le (D := dotB J n) (r := r) 24 (Nat.le_refl _)
    omega
/-- the columns of a needle in a pass -/
noncomputable def layB (J : Nat → Nat) (r k p : Nat) : Nat → Bool := fun c => dotB J k c && (pas (dotB J k) r c == p)
section S8
variable {ε : gv_E} {d : Nat} {Qs : Option Value → List va_E → Prop} {sw : List va_E} {r : Nat → Nat}
theorem sp_X8_columnsIn (l k p : Nat) (hm : qm r sw) (hr : roOk r) (hl : l < 4) (hk : k < 8) (hp : p < 1000) (hq : Qs (some (.int (nI (bitsN (layB (inkR r l) (r 1) k p) 24)))) sw) : gv_S ε (d + 2) m_X8_columnsIn [.ref 44, .int (nI l), .int (nI k), .int (nI p)] sw Qs := by
  obtain ⟨fs, h8, hf, hN⟩ := id hm
  have hr1 := hr.2.1
  unfold layB at hq
  generalize hDd : dotB (inkR r l) k = D at hq
  generalize hPd : pas D (r 1) = P at hq
  have hPok : isPas 24 D (r 1) P := by rw [← hPd]; exact pas_ok D (r 1)
  have inner : ∀ (n c q f : Nat), c + n = 24 → f < 100 → (∀ x, c ≤ x → (f ≤ x ↔ ∀ i, i < c → D i = true → P i = q → i + r 1 < x)) → (∀ a7, gv_M ε (d + 2) m_X8_columnsIn sw.length Qs 78 [some (.ref 44), some (.int (nI l)), some (.int (nI k)), some (.int (nI p)), some (.int (nI (bitsN (fun c => D c && decide (q ≤ P c)) 24))), some (.int (nI q)), some (.int (nI (bitsN (fun c => D c && (P c == q)) 24))), a7, some (.int (nI 24))] [] sw 0 0) → gv_M ε (d + 2) m_X8_columnsIn sw.length Qs 26 [some (.ref 44), some (.int (nI l)), some (.int (nI k)), some (.int (nI p)), some (.int (nI (bitsN (fun c => D c && decide (q ≤ P c)) 24))), some (.int (nI q)), some (.int (nI (bitsN (fun c => D c && (P c == q)) c))), some (.int (nI f)), some (.int (nI c))] [] sw 0 0 := by
    intro n
    induction n with
    | zero =>
      intro c q f hc hf1 hf2 kk
      refine t_X8_columnsIn_26 (t_X8_columnsIn_28 (t_X8_columnsIn_30N (by omega) (by omega) (fun h => ?_) (fun h => absurd h (by omega))))
      rw [show c = 24 by omega]
      exact kk _
    | succ n ih =>
      intro c q f hc hf1 hf2 kk
      have hlt := bitsN_lt (fun c => D c && decide (q ≤ P c)) 24
      have hdm := bitsN_dm (fun c => D c && decide (q ≤ P c)) (n := 24) (c := c) (by omega)
      refine t_X8_columnsIn_26 (t_X8_columnsIn_28 (t_X8_columnsIn_30N (by omega) (by omega) (fun h => absurd h (by omega)) (fun h => ?_)))
      refine t_X8_columnsIn_33 (t_X8_columnsIn_35 (t_X8_columnsIn_37 (Nat.le_of_ble_eq_true rfl) (sp_X8_has _ c (by omega) (by omega) ?_)))
      rw [hdm]
      -- whether c falls in pass q
      have hiff : (D c = true ∧ q ≤ P c ∧ f ≤ c) ↔ (D c = true ∧ P c = q) := by
        constructor
        · rintro ⟨a1, a2, a3⟩
          refine ⟨a1, ?_⟩
          obtain ⟨g1, g2⟩ := hPok c (by omega) a1
          rcases Nat.lt_or_ge q (P c) with z | z
          · exact absurd ((hf2 c (Nat.le_refl _)).mp a3) (g2 q z)
          · omega
        · rintro ⟨a1, a2⟩
          obtain ⟨g1, g2⟩ := hPok c (by omega) a1
          rw [a2] at g1
          exact ⟨a1, by omega, (hf2 c (Nat.le_refl _)).mpr g1⟩
      have skip : ¬ (D c = true ∧ P c = q) → gv_M ε (d + 2) m_X8_columnsIn sw.length Qs 72 [some (.ref 44), some (.int (nI l)), some (.int (nI k)), some (.int (nI p)), some (.int (nI (bitsN (fun c => D c && decide (q ≤ P c)) 24))), some (.int (nI q)), some (.int (nI (bitsN (fun c => D c && (P c == q)) c))), some (.int (nI f)), some (.int (nI c))] [] sw 0 0 := by
        intro hno
        refine t_X8_columnsIn_72N (t_X8_columnsIn_75 (?_))
        have := ih (c + 1) q f (by omega) hf1 (fun x hx => ?_) kk
        · have e : bitsN (fun c => D c && (P c == q)) (c + 1) = bitsN (fun c => D c && (P c == q)) c := by
            show _ + (if (D c && (P c == q)) = true then 2 ^ c else 0) = _
            rw [if_neg (fun z => by
              rw [Bool.and_eq_true, beq_iff_eq] at z
              exact hno z), Nat.add_zero]
          rw [e] at this
          exact this
        · rw [hf2 x (by omega)]
          constructor
          · intro a i hi hd e
            by_cases z : i = c
            · subst z
              exact absurd ⟨hd, e⟩ hno
            · exact a i (by omega) hd e
          · intro a i hi hd e
            exact a i (by omega) hd e
      by_cases b : (D c && decide (q ≤ P c)) = true
      · rw [if_pos b]
        rw [Bool.and_eq_true, decide_eq_true_eq] at b
        refine t_X8_columnsIn_40 (fun h => absurd h (by decide)) (fun _ => ?_)
        refine t_X8_columnsIn_43 (t_X8_columnsIn_45 (t_X8_columnsIn_47N (by omega) (by omega) (fun g => ?_) (fun g => ?_)))
        · exact skip (fun z => by have := (hiff.mpr z).2.2; omega)
        · have hin := hiff.mp ⟨b.1, b.2, g⟩
          refine t_X8_columnsIn_50 (t_X8_columnsIn_52 (t_X8_columnsIn_53 (t_X8_columnsIn_55 (?_))))
          rw [nI_sh c (by omega)]
          refine t_X8_columnsIn_56 (?_)
          rw [nI_or, bits_or]
          refine t_X8_columnsIn_57 (t_X8_columnsIn_59 (t_X8_columnsIn_61 (t_X8_columnsIn_62 h8 hf (t_X8_columnsIn_65 (t_X8_columnsIn_66 hN 1 (by decide) rfl (by decide) (t_X8_columnsIn_67N (t_X8_columnsIn_68 (t_X8_columnsIn_69N (t_X8_columnsIn_70 (t_X8_columnsIn_72N (t_X8_columnsIn_75 (?_))))))))))))
          have := ih (c + 1) q (c + r 1 + 1) (by omega) (by omega) (fun x hx => ?_) kk
          · have e : bitsN (fun c => D c && (P c == q)) (c + 1) = bitsN (fun c => D c && (P c == q)) c + 2 ^ c := by
              show _ + (if (D c && (P c == q)) = true then 2 ^ c else 0) = _
              rw [if_pos (by rw [Bool.and_eq_true, beq_iff_eq]; exact hin)]
            rw [e] at this
            exact this
          · constructor
            · intro a i hi hd e
              omega
            · intro a
              have := a c (by omega) hin.1 hin.2
              omega
      · rw [if_neg b]
        refine t_X8_columnsIn_40 (fun _ => ?_) (fun h => absurd rfl h)
        refine skip (fun z => b ?_)
        rw [Bool.and_eq_true, decide_eq_true_eq]
        exact ⟨z.1, by omega⟩
  have outer : ∀ (n q : Nat) (a6 a7 a8 : Option Value), q + n = p → gv_M ε (d + 2) m_X8_columnsIn sw.length Qs 11 [some (.ref 44), some (.int (nI l)), some (.int (nI k)), some (.int (nI p)), some (.int (nI (bitsN (fun c => D c && decide (q ≤ P c)) 24))), some (.int (nI q)), a6, a7, a8] [] sw 0 0 := by
    intro n
    induction n with
    | zero =>
      intro q a6 a7 a8 hqn
      refine t_X8_columnsIn_11 (t_X8_columnsIn_13 (t_X8_columnsIn_14N (by omega) (by omega) (fun h => absurd h (by omega)) (fun h => ?_)))
      refine t_X8_columnsIn_17 (t_X8_columnsIn_18 (t_X8_columnsIn_20 (t_X8_columnsIn_21 (t_X8_columnsIn_23 (t_X8_columnsIn_24 (?_))))))
      refine inner 24 0 q 0 (by decide) (by decide) (fun x hx => ?_) (fun a7 => ?_)
      · exact ⟨fun _ i hi => absurd hi (by omega), fun _ => Nat.zero_le _⟩
      · refine t_X8_columnsIn_78 (t_X8_columnsIn_80 (t_X8_columnsIn_81N (by omega) (by omega) (fun h => absurd (show q = p by omega) h) (fun h => ?_)))
        refine t_X8_columnsIn_84 (t_X8_columnsIn_86 ?_)
        rw [show q = p by omega]
        exact hq
    | succ n ih =>
      intro q a6 a7 a8 hqn
      refine t_X8_columnsIn_11 (t_X8_columnsIn_13 (t_X8_columnsIn_14N (by omega) (by omega) (fun h => absurd h (by omega)) (fun h => ?_)))
      refine t_X8_columnsIn_17 (t_X8_columnsIn_18 (t_X8_columnsIn_20 (t_X8_columnsIn_21 (t_X8_columnsIn_23 (t_X8_columnsIn_24 (?_))))))
      refine inner 24 0 q 0 (by decide) (by decide) (fun x hx => ?_) (fun a7 => ?_)
      · exact ⟨fun _ i hi => absurd hi (by omega), fun _ => Nat.zero_le _⟩
      · refine t_X8_columnsIn_78 (t_X8_columnsIn_80 (t_X8_columnsIn_81N (by omega) (by omega) (fun h => ?_) (fun h => absurd h (by omega))))
        refine t_X8_columnsIn_87 (t_X8_columnsIn_89 (t_X8_columnsIn_91 (?_)))
        rw [nI_m1]
        refine t_X8_columnsIn_92 (?_)
        rw [nI_xor]
        refine t_X8_columnsIn_93 (?_)
        rw [nI_and]
        have e : bitsN (fun c => D c && decide (q ≤ P c)) 24 &&& (bitsN (fun c => D c && (P c == q)) 24 ^^^ (2 ^ 32 - 1)) = bitsN (fun c => D c && decide (q + 1 ≤ P c)) 24 := by
          refine bitsN_eq (fun i => ?_)
          rw [Nat.testBit_and, Nat.testBit_xor, bitsN_tb, bitsN_tb, Nat.testBit_two_pow_sub_one]
          by_cases hi : i < 24
          · have h32 : i < 32 := by omega
            simp only [hi, h32, decide_true, Bool.true_and, Bool.xor_true]
            by_cases hd : D i = true
            · simp only [hd, Bool.true_and]
              rcases Nat.lt_trichotomy (P i) q with z | z | z
              · have a1 : ¬ q ≤ P i := by omega
                have a2 : ¬ q + 1 ≤ P i := by omega
                simp [a1, a2]
              · have a2 : ¬ q + 1 ≤ P i := by omega
                simp [z]
              · have a1 : q ≤ P i := by omega
                have a2 : q + 1 ≤ P i := by omega
                have a3 : ¬ P i = q := by omega
                simp [a1, a2, a3]
            · simp [hd]
          · simp [hi]
        rw [e]
        refine t_X8_columnsIn_94 (t_X8_columnsIn_96N (t_X8_columnsIn_99 (?_)))
        exact ih (q + 1) _ _ _ (by omega)
  refine gv_S.go rfl ?_
  refine t_X8_columnsIn_0 (t_X8_columnsIn_1 (t_X8_columnsIn_2 (t_X8_columnsIn_3 h8 (Nat.le_of_ble_eq_true rfl) (sp_X8_columnsOf l k hm hr hl hk ?_))))
  rw [hDd]
  refine t_X8_columnsIn_6 (t_X8_columnsIn_8 (t_X8_columnsIn_9 (?_)))
  have e : bitsN D 24 = bitsN (fun c => D c && decide (0 ≤ P c)) 24 := bitsN_cong (fun i _ => by simp)
  rw [e]
  exact outer p 0 _ _ _ (by omega)
theorem lay_ne {J : Nat → Nat} {r k p : Nat} : bitsN (layB J r k p) 24 ≠ 0 ↔ p < usedN (dotB J k) (pas (dotB J k) r) 24 := by
  rw [usedN_iff, Ne, bitsN_zero]
  unfold layB
  constructor
  · intro h
    refine Classical.byContradiction (fun z => h (fun i hi => ?_))
    cases hb : (dotB J k i && (pas (dotB J k) r i == p)) with
    | false => rfl
    | true =>
      rw [Bool.and_eq_true, beq_iff_eq] at hb
      exact absurd ⟨i, hi, hb.1, hb.2⟩ z
  · rintro ⟨i, h1, h2, h3⟩ h
    have := h i h1
    rw [h2, h3] at this
    simp at this
theorem sp_X8_passesOf (l : Nat) (hm : qm r sw) (hr : roOk r) (hl : l < 4) (hq : Qs (some (.int (nI (npN (inkR r l) (r 1) 8)))) sw) : gv_S ε (d + 3) m_X8_passesOf [.ref 44, .int (nI l)] sw Qs := by
  obtain ⟨fs, h8, hf, hN⟩ := id hm
  have hr1 := hr.2.1
  have hle := npN_le (J := inkR r l) (r := r 1) 8
  -- one round of the needles
  have inner : ∀ (n k m a : Nat), k + n = 8 → m ≤ 10 → (a = 1 ∨ a = 0) → (a = 1 ↔ m < npN (inkR r l) (r 1) k) → gv_M ε (d + 3) m_X8_passesOf sw.length Qs 47 [some (.ref 44), some (.int (nI l)), some (.int (nI m)), some (.int (nI (if m < npN (inkR r l) (r 1) 8 then 1 else 0))), some (.int (nI 8))] [] sw 0 0 → gv_M ε (d + 3) m_X8_passesOf sw.length Qs 13 [some (.ref 44), some (.int (nI l)), some (.int (nI m)), some (.int (nI a)), some (.int (nI k))] [] sw 0 0 := by
    intro n
    induction n with
    | zero =>
      intro k m a hk hm10 ha hiff kk
      refine t_X8_passesOf_13 (t_X8_passesOf_15 (t_X8_passesOf_17N (by omega) (by omega) (fun h => ?_) (fun h => absurd h (by omega))))
      have e : k = 8 := by omega
      subst e
      have e2 : a = if m < npN (inkR r l) (r 1) 8 then 1 else 0 := by
        split
        · rename_i z
          exact hiff.mpr z
        · rename_i z
          rcases ha with y | y
          · exact absurd (hiff.mp y) z
          · exact y
      rw [e2]
      exact kk
    | succ n ih =>
      intro k m a hk hm10 ha hiff kk
      have hstep : m < npN (inkR r l) (r 1) (k + 1) ↔ m < npN (inkR r l) (r 1) k ∨ m < usedN (dotB (inkR r l) k) (pas (dotB (inkR r l) k) (r 1)) 24 := by
        show m < max _ _ ↔ _
        omega
      have blt := bitsN_lt (layB (inkR r l) (r 1) k m) 24
      refine t_X8_passesOf_13 (t_X8_passesOf_15 (t_X8_passesOf_17N (by omega) (by omega) (fun h => absurd h (by omega)) (fun h => ?_)))
      have yes : m < npN (inkR r l) (r 1) (k + 1) → gv_M ε (d + 3) m_X8_passesOf sw.length Qs 35 [some (.ref 44), some (.int (nI l)), some (.int (nI m)), some (.int (nI a)), some (.int (nI k))] [] sw 0 0 := by
        intro z
        refine t_X8_passesOf_35 (t_X8_passesOf_36 (t_X8_passesOf_40 (t_X8_passesOf_41N (t_X8_passesOf_44 (?_)))))
        exact ih (k + 1) m 1 (by omega) hm10 (Or.inl rfl) ⟨fun _ => z, fun _ => rfl⟩ kk
      refine t_X8_passesOf_20 (t_X8_passesOf_21N (by omega) (fun g => ?_) (fun g => ?_))
      · exact yes (hstep.mpr (Or.inl (hiff.mp (by omega))))
      · refine t_X8_passesOf_24 (t_X8_passesOf_25 (t_X8_passesOf_26 (t_X8_passesOf_28 (t_X8_passesOf_29 h8 (Nat.le_of_ble_eq_true rfl) (sp_X8_columnsIn l k m hm hr hl (by omega) (by omega) ?_)))))
        refine t_X8_passesOf_32N (by omega) (fun z => ?_) (fun z => ?_)
        · refine t_X8_passesOf_39 (t_X8_passesOf_40 (t_X8_passesOf_41N (t_X8_passesOf_44 (?_))))
          refine ih (k + 1) m 0 (by omega) hm10 (Or.inr rfl) ⟨fun y => by omega, fun y => ?_⟩ kk
          rcases hstep.mp y with y | y
          · have := hiff.mpr y
            omega
          · exact absurd z (lay_ne.mpr y)
        · exact yes (hstep.mpr (Or.inr (lay_ne.mp (by omega))))
  have outer : ∀ (n m : Nat) (a4 : Option Value), m + n = npN (inkR r l) (r 1) 8 → gv_M ε (d + 3) m_X8_passesOf sw.length Qs 4 [some (.ref 44), some (.int (nI l)), some (.int (nI m)), some (.int (nI 1)), a4] [] sw 0 0 := by
    intro n
    induction n with
    | zero =>
      intro m a4 hmn
      refine t_X8_passesOf_4 (t_X8_passesOf_5 (fun h => absurd h (by decide)) (fun _ => ?_))
      refine t_X8_passesOf_8 (t_X8_passesOf_9 (t_X8_passesOf_10 (t_X8_passesOf_11 (?_))))
      refine inner 8 0 m 0 (by decide) (by omega) (Or.inr rfl) ⟨fun y => by omega, fun y => by unfold npN at y; omega⟩ ?_
      rw [if_neg (by omega)]
      refine t_X8_passesOf_47 (t_X8_passesOf_48 (t_X8_passesOf_49 (fun _ => ?_) (fun h => absurd rfl h)))
      refine t_X8_passesOf_56 (t_X8_passesOf_57N (t_X8_passesOf_58 (t_X8_passesOf_59 (?_))))
      refine t_X8_passesOf_4 (t_X8_passesOf_5 (fun _ => ?_) (fun h => absurd rfl h))
      refine t_X8_passesOf_62 (t_X8_passesOf_63 ?_)
      rw [show m + 0 = npN (inkR r l) (r 1) 8 by omega]
      exact hq
    | succ n ih =>
      intro m a4 hmn
      refine t_X8_passesOf_4 (t_X8_passesOf_5 (fun h => absurd h (by decide)) (fun _ => ?_))
      refine t_X8_passesOf_8 (t_X8_passesOf_9 (t_X8_passesOf_10 (t_X8_passesOf_11 (?_))))
      refine inner 8 0 m 0 (by decide) (by omega) (Or.inr rfl) ⟨fun y => by omega, fun y => by unfold npN at y; omega⟩ ?_
      rw [if_pos (by omega)]
      refine t_X8_passesOf_47 (t_X8_passesOf_48 (t_X8_passesOf_49 (fun h => absurd h (by decide)) (fun _ => ?_)))
      refine t_X8_passesOf_52 (t_X8_passesOf_53 (t_X8_passesOf_57N (t_X8_passesOf_58 (t_X8_passesOf_59 (?_)))))
      exact ih (m + 1) _ (by omega)
  refine gv_S.go rfl ?_
  refine t_X8_passesOf_0 (t_X8_passesOf_1 (t_X8_passesOf_2 (t_X8_passesOf_3 (?_))))
  exact outer _ 0 _ (Nat.zero_add _)
end S8
