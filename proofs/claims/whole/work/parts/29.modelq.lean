/-! what the model answers of crowds, wear, passes -/
theorem cntN_stop {p : Nat → Bool} {a i : Nat} : ∀ n, i ≤ n → (∀ j, i ≤ j → j < n → p (a + j) = false) → cntN p a n = cntN p a i := by
  intro n
  induction n with
  | zero => intro h _; rw [show i = 0 by omega]
  | succ n ih =>
    intro h1 h2
    rcases Nat.eq_or_lt_of_le h1 with q | q
    · rw [q]
    · show cntN p a n + (if p (a + n) = true then 1 else 0) = _
      rw [if_neg (by rw [h2 n (by omega) (by omega)]; decide), Nat.add_zero]
      exact ih (by omega) (fun j a b => h2 j a (by omega))
def rMax (f : Nat → Nat) (p n m a : Nat) : Prop := (∀ q, p ≤ q → q < n → f q ≤ m) ∧ (m = 0 ∨ (p ≤ a ∧ a < n ∧ f a = m ∧ ∀ q, p ≤ q → q < a → f q < m))
theorem rMax_up {f : Nat → Nat} {p n m a : Nat} (h : rMax f (p + 1) n m a) (hp : p < n) (hv : m ≤ f p) : rMax f p n (f p) p := by
  refine ⟨fun q h1 h2 => ?_, Or.inr ⟨Nat.le_refl _, hp, rfl, fun q h1 h2 => by omega⟩⟩
  rcases Nat.eq_or_lt_of_le h1 with z | z
  · rw [z]
    exact Nat.le_refl _
  · have := h.1 q z h2
    omega
theorem rMax_no {f : Nat → Nat} {p n m a : Nat} (h : rMax f (p + 1) n m a) (hv : f p = 0 ∨ f p < m) : rMax f p n m a := by
  refine ⟨fun q h1 h2 => ?_, ?_⟩
  · rcases Nat.eq_or_lt_of_le h1 with z | z
    · rw [← z]
      omega
    · exact h.1 q z h2
  · rcases h.2 with z | ⟨z1, z2, z3, z4⟩
    · exact Or.inl z
    · by_cases hm : m = 0
      · exact Or.inl hm
      · refine Or.inr ⟨by omega, z2, z3, fun q h1 h2 => ?_⟩
        rcases Nat.eq_or_lt_of_le h1 with y | y
        · rw [← y]
          omega
        · exact z4 q y h2
theorem rMax_f {f : Nat → Nat} {n m a : Nat} (h : rMax f 0 n m a) : fMax f n m a := ⟨fun q hq => h.1 q (Nat.zero_le _) hq, h.2.imp id (fun z => ⟨z.2.1, z.2.2.1, fun q hq => z.2.2.2 q (Nat.zero_le _) hq⟩)⟩
theorem and_zero {x y : Nat} (hx : x < 256) (hy : y < 256) : x &&& y = 0 ↔ ∀ k, k < 8 → ¬ (x / 2 ^ k % 2 = 1 ∧ y / 2 ^ k % 2 = 1) := by
  constructor
  · intro h k hk hxy
    have := Nat.testBit_and x y k
    rw [h, Nat.testBit_eq_decide_div_mod_eq (x := x), Nat.testBit_eq_decide_div_mod_eq (x := y), decide_eq_true hxy.1, decide_eq_true hxy.2] at this
    simp at this
  · intro h
    refine Nat.eq_of_testBit_eq (fun k => ?_)
    rw [Nat.testBit_and, Nat.zero_testBit]
    by_cases hk : k < 8
    · have := h k hk
      rw [Nat.testBit_eq_decide_div_mod_eq, Nat.testBit_eq_decide_div_mod_eq]
      by_cases q : x / 2 ^ k % 2 = 1
      · have : ¬ y / 2 ^ k % 2 = 1 := fun z => this ⟨q, z⟩
        simp [this]
      · simp [q]
    · have : x.testBit k = false := Nat.testBit_lt_two_pow (Nat.lt_of_lt_of_le hx (Nat.pow_le_pow_right (n := 2) (by decide) (by omega : 8 ≤ k)))
      rw [this, Bool.false_and]
def woN (J : Nat → Nat) (x : Int32) : Nat := sumN (fun k => if nI k = x then 0 else amtN J k) 8
theorem woN_le (J : Nat → Nat) (x : Int32) : woN J x ≤ 192 := sumN_le 8 (fun k _ => by show (if nI k = x then 0 else amtN J k) ≤ 24; split <;> first | omega | exact amtN_le J k)
theorem woN_m1 (J : Nat → Nat) : woN J (-1) = totN J := sumN_cong (fun k hk => by
  show (if nI k = -1 then 0 else amtN J k) = amtN J k
  have : ∀ k, k < 8 → ¬ nI k = -1 := by decide
  rw [if_neg (this k hk)])
theorem woN_at (J : Nat → Nat) {j : Nat} (hj : j < 8) : woN J (nI j) + amtN J j = totN J := by
  have : ∀ n, n ≤ 8 → sumN (fun k => if nI k = nI j then 0 else amtN J k) n + (if j < n then amtN J j else 0) = sumN (fun k => amtN J k) n := by
    intro n
    induction n with
    | zero => intro _; rfl
    | succ n ih =>
      intro hn
      have := ih (by omega)
      show sumN (fun k => if nI k = nI j then 0 else amtN J k) n + (if nI n = nI j then 0 else amtN J n) + (if j < n + 1 then amtN J j else 0) = sumN (fun k => amtN J k) n + amtN J n
      by_cases q : n = j
      · subst q
        rw [if_pos rfl, if_pos (by omega)]
        rw [if_neg (by omega)] at this
        omega
      · rw [if_neg (fun z => q (nI_inj (by omega) (by omega) z))]
        by_cases y : j < n
        · rw [if_pos (by omega)]
          rw [if_pos y] at this
          omega
        · rw [if_neg (by omega)]
          rw [if_neg y] at this
          omega
  have := this 8 (Nat.le_refl _)
  rw [if_pos hj] at this
  exact this
def headR (r : Nat → Nat) (k c : Nat) : Int32 := if k % 2 = 0 then nI c else nI c - nI (r 0)
section S8
variable {ε : gv_E} {d : Nat} {Qs : Option Value → List va_E → Prop} {sw : List va_E} {r : Nat → Nat}
theorem sp_X8_dotMany (l k : Nat) (hm : qm r sw) (hr : roOk r) (hl : l < 4) (hk : k < 8) (hq : Qs (some (.int (nI (amtN (inkR r l) k)))) sw) : gv_S ε (d + 1) m_X8_dotMany [.ref 44, .int (nI l), .int (nI k)] sw Qs := by
  obtain ⟨fs, h8, hf, hN⟩ := id hm
  have loop : ∀ (n c : Nat), c + n = 24 → gv_M ε (d + 1) m_X8_dotMany sw.length Qs 5 [some (.ref 44), some (.int (nI l)), some (.int (nI k)), some (.int (nI (cntN (dotB (inkR r l) k) 0 c))), some (.int (nI c))] [] sw 0 0 := by
    intro n
    induction n with
    | zero =>
      intro c hc
      refine t_X8_dotMany_5 (t_X8_dotMany_7 (t_X8_dotMany_9N (by omega) (by omega) (fun h => ?_) (fun h => absurd h (by omega))))
      refine t_X8_dotMany_40 (t_X8_dotMany_41 ?_)
      rw [show c = 24 by omega]
      exact hq
    | succ n ih =>
      intro c hc
      have hi := inkR_le hr hl (c := c) (by omega)
      refine t_X8_dotMany_5 (t_X8_dotMany_7 (t_X8_dotMany_9N (by omega) (by omega) (fun h => absurd h (by omega)) (fun h => ?_)))
      refine t_X8_dotMany_12 (t_X8_dotMany_13 (t_X8_dotMany_14 (t_X8_dotMany_15 (t_X8_dotMany_17 h8 (Nat.le_of_ble_eq_true rfl) (sp_X8_dotsAt l c hm hr hl (by omega) ?_)))))
      refine t_X8_dotMany_20 (t_X8_dotMany_21 (Nat.le_of_ble_eq_true rfl) (sp_X8_has _ k (by omega) (by omega) ?_))
      have := ih (c + 1) (by omega)
      unfold cntN at this
      rw [Nat.zero_add] at this
      by_cases q : inkR r l c / 2 ^ k % 2 = 1
      · rw [if_pos (show dotB (inkR r l) k c = true from beq_iff_eq.mpr q)] at this
        rw [q]
        refine t_X8_dotMany_24 (fun h => absurd h (by decide)) (fun _ => ?_)
        refine t_X8_dotMany_27 (t_X8_dotMany_28 (t_X8_dotMany_32N (t_X8_dotMany_33 (t_X8_dotMany_34N (t_X8_dotMany_37 (?_))))))
        exact this
      · rw [if_neg (show ¬ dotB (inkR r l) k c = true from fun z => q (beq_iff_eq.mp z))] at this
        rw [show inkR r l c / 2 ^ k % 2 = 0 by omega]
        refine t_X8_dotMany_24 (fun _ => ?_) (fun h => absurd rfl h)
        refine t_X8_dotMany_31 (t_X8_dotMany_32N (t_X8_dotMany_33 (t_X8_dotMany_34N (t_X8_dotMany_37 (?_)))))
        exact this
  refine gv_S.go rfl ?_
  refine t_X8_dotMany_0 (t_X8_dotMany_1 (t_X8_dotMany_2 (t_X8_dotMany_3 (?_))))
  exact loop 24 0 (by decide)
theorem sp_X8_within (l k a : Nat) (hm : qm r sw) (hr : roOk r) (hl : l < 4) (hk : k < 8) (ha : a < 24) (hq : Qs (some (.int (nI (cntN (fun c => decide (c < 24 ∧ dotB (inkR r l) k c = true)) a (r 1 + 1))))) sw) : gv_S ε (d + 1) m_X8_within [.ref 44, .int (nI l), .int (nI k), .int (nI a)] sw Qs := by
  obtain ⟨fs, h8, hf, hN⟩ := id hm
  have hr1 := hr.2.1
  have loop : ∀ (n i : Nat), i + n = r 1 + 1 → gv_M ε (d + 1) m_X8_within sw.length Qs 6 [some (.ref 44), some (.int (nI l)), some (.int (nI k)), some (.int (nI a)), some (.int (nI (cntN (fun c => decide (c < 24 ∧ dotB (inkR r l) k c = true)) a i))), some (.int (nI (a + i)))] [] sw 0 0 := by
    intro n
    induction n with
    | zero =>
      intro i hi
      have fin : gv_M ε (d + 1) m_X8_within sw.length Qs 56 [some (.ref 44), some (.int (nI l)), some (.int (nI k)), some (.int (nI a)), some (.int (nI (cntN (fun c => decide (c < 24 ∧ dotB (inkR r l) k c = true)) a i))), some (.int (nI (a + i)))] [] sw 0 0 := by
        refine t_X8_within_56 (t_X8_within_58 ?_)
        rw [show i = r 1 + 1 by omega]
        exact hq
      refine t_X8_within_6 (t_X8_within_8 (t_X8_within_10N (by omega) (by omega) (fun h => fin) (fun h => ?_)))
      refine t_X8_within_13 (t_X8_within_15 (t_X8_within_16 (t_X8_within_17 h8 hf (t_X8_within_20 (t_X8_within_21 hN 1 (by decide) rfl (by decide) (t_X8_within_22N (t_X8_within_23N (by omega) (by omega) (fun h => fin) (fun h => absurd h (by omega)))))))))
    | succ n ih =>
      intro i hi
      refine t_X8_within_6 (t_X8_within_8 (t_X8_within_10N (by omega) (by omega) (fun h => ?_) (fun h => ?_)))
      · refine t_X8_within_56 (t_X8_within_58 ?_)
        rw [cntN_stop (i := i) (r 1 + 1) (by omega) (fun j h1 h2 => decide_eq_false (by omega))] at hq
        exact hq
      · refine t_X8_within_13 (t_X8_within_15 (t_X8_within_16 (t_X8_within_17 h8 hf (t_X8_within_20 (t_X8_within_21 hN 1 (by decide) rfl (by decide) (t_X8_within_22N (t_X8_within_23N (by omega) (by omega) (fun h => absurd h (by omega)) (fun g => ?_))))))))
        have hi2 := inkR_le hr hl (c := a + i) (by omega)
        refine t_X8_within_26 (t_X8_within_28 (t_X8_within_29 (t_X8_within_30 (t_X8_within_32 h8 (Nat.le_of_ble_eq_true rfl) (sp_X8_dotsAt l (a + i) hm hr hl (by omega) ?_)))))
        refine t_X8_within_35 (t_X8_within_36 (Nat.le_of_ble_eq_true rfl) (sp_X8_has _ k (by omega) (by omega) ?_))
        have := ih (i + 1) (by omega)
        unfold cntN at this
        by_cases q : inkR r l (a + i) / 2 ^ k % 2 = 1
        · rw [if_pos (decide_eq_true ⟨by omega, show dotB (inkR r l) k (a + i) = true from beq_iff_eq.mpr q⟩)] at this
          rw [q]
          refine t_X8_within_39 (fun h => absurd h (by decide)) (fun _ => ?_)
          refine t_X8_within_42 (t_X8_within_43 (t_X8_within_47N (t_X8_within_48 (t_X8_within_50N (t_X8_within_53 (?_))))))
          exact this
        · rw [if_neg (fun z => q (beq_iff_eq.mp (of_decide_eq_true z).2))] at this
          rw [show inkR r l (a + i) / 2 ^ k % 2 = 0 by omega]
          refine t_X8_within_39 (fun _ => ?_) (fun h => absurd rfl h)
          refine t_X8_within_46 (t_X8_within_47N (t_X8_within_48 (t_X8_within_50N (t_X8_within_53 (?_)))))
          exact this
  refine gv_S.go rfl ?_
  refine t_X8_within_0 (t_X8_within_1 (t_X8_within_3 (t_X8_within_4 (?_))))
  exact loop (r 1 + 1) 0 (by omega)
theorem sp_X8_wear (x : Int32) (hm : qm r sw) (hr : roOk r) (h1 : ∀ k, k < 8 → x = nI k → Qs (some (.int (nI (sumN (fun l => amtN (inkR r l) k) (r 21))))) sw) (h0 : (∀ k, k < 8 → x ≠ nI k) → Qs (some (.int (-1))) sw) : gv_S ε (d + 2) m_X8_wear [.ref 44, .int x] sw Qs := by
  obtain ⟨fs, h8, hf, hN⟩ := id hm
  have hn := hr.2.2.2.2.1
  refine gv_S.go rfl ?_
  refine t_X8_wear_0 (t_X8_wear_1 (t_X8_wear_2 (t_X8_wear_4 (Nat.le_of_ble_eq_true rfl) (sp_X8_inN x 7 (by decide) (fun k hk e => ?_) (fun h => ?_)))))
  · subst e
    have loop : ∀ (n l : Nat), l + n = r 21 → gv_M ε (d + 2) m_X8_wear sw.length Qs 16 [some (.ref 44), some (.int (nI k)), some (.int (nI (sumN (fun l => amtN (inkR r l) k) l))), some (.int (nI l))] [] sw 0 0 := by
      intro n
      induction n with
      | zero =>
        intro l hl
        refine t_X8_wear_16 (t_X8_wear_17 (t_X8_wear_18 h8 hf (t_X8_wear_21 (t_X8_wear_23 hN 21 (by decide) rfl (by decide) (t_X8_wear_24N (by omega) (by omega) (fun h => ?_) (fun h => absurd h (by omega)))))))
        refine t_X8_wear_42 (t_X8_wear_43 ?_)
        rw [show l = r 21 by omega]
        exact h1 k (by omega) rfl
      | succ n ih =>
        intro l hl
        refine t_X8_wear_16 (t_X8_wear_17 (t_X8_wear_18 h8 hf (t_X8_wear_21 (t_X8_wear_23 hN 21 (by decide) rfl (by decide) (t_X8_wear_24N (by omega) (by omega) (fun h => absurd h (by omega)) (fun h => ?_))))))
        refine t_X8_wear_27 (t_X8_wear_28 (t_X8_wear_29 (t_X8_wear_30 (t_X8_wear_31 h8 (Nat.le_of_ble_eq_true rfl) (sp_X8_dotMany l k hm hr (by omega) (by omega) ?_)))))
        refine t_X8_wear_34N (t_X8_wear_35 (t_X8_wear_36N (t_X8_wear_39 (?_))))
        exact ih (l + 1) (by omega)
    refine t_X8_wear_7 (fun _ => ?_) (fun h => absurd h (by decide))
    refine t_X8_wear_12 (t_X8_wear_13 (t_X8_wear_14 (t_X8_wear_15 (?_))))
    exact loop (r 21) 0 (by omega)
  · refine t_X8_wear_7 (fun h => absurd rfl h) (fun _ => ?_)
    refine t_X8_wear_10 (t_X8_wear_11 ?_)
    exact h0 (fun k hk => h k (by omega))
theorem sp_X8_crowd (x y : Int32) (hm : qm r sw) (hr : roOk r) (h1 : ∀ l w m a, l < r 21 → w ≤ 2 → x = nI l → y = nI w → fMax (crV (inkR r l) (r 1)) 192 m a → Qs (some (.int (crI m a w))) sw) (h0 : ¬ (∃ l w, l < r 21 ∧ w ≤ 2 ∧ x = nI l ∧ y = nI w) → Qs (some (.int (-1))) sw) : gv_S ε (d + 2) m_X8_crowd [.ref 44, .int x, .int y] sw Qs := by
  obtain ⟨fs, h8, hf, hN⟩ := id hm
  have hn := hr.2.2.2.2.1
  have hr1 := hr.2.1
  refine gv_S.go rfl ?_
  refine t_X8_crowd_0 (t_X8_crowd_1 (t_X8_crowd_2 h8 (Nat.le_of_ble_eq_true rfl) (sp_X8_isLine x hm hn (fun l hl e => ?_) (fun h => ?_))))
  · subst e
    refine t_X8_crowd_5 (fun h => absurd h (by decide)) (fun _ => ?_)
    refine t_X8_crowd_8 (t_X8_crowd_9 (t_X8_crowd_10 (t_X8_crowd_11 (Nat.le_of_ble_eq_true rfl) (sp_X8_inN y 2 (by decide) (fun w hw ew => ?_) (fun h => ?_)))))
    · subst ew
      have inner : ∀ (c k m a : Nat) (a8 : Option Value), c ≤ 24 → k < 8 → m < 100 → rMax (crV (inkR r l) (r 1)) (24 * k + c) 192 m a → (∀ m a a8, m < 100 → rMax (crV (inkR r l) (r 1)) (24 * k) 192 m a → gv_M ε (d + 2) m_X8_crowd sw.length Qs 86 [some (.ref 44), some (.int (nI l)), some (.int (nI w)), some (.int (nI m)), some (.int (if m = 0 then -9 else nI (a / 24))), some (.int (if m = 0 then -9 else nI (a % 24))), some (.int (nI k)), some (.int (-1)), a8] [] sw 0 0) → gv_M ε (d + 2) m_X8_crowd sw.length Qs 42 [some (.ref 44), some (.int (nI l)), some (.int (nI w)), some (.int (nI m)), some (.int (if m = 0 then -9 else nI (a / 24))), some (.int (if m = 0 then -9 else nI (a % 24))), some (.int (nI k)), some (.int (nI c + (-1))), a8] [] sw 0 0 := by
        intro c
        induction c with
        | zero =>
          intro k m a a8 hc hk hm1 hf1 kk
          rw [show nI 0 + (-1) = (-1 : Int32) by decide]
          refine t_X8_crowd_42 (t_X8_crowd_44 (fun h => ?_) (fun h => absurd (by decide) h))
          exact kk m a a8 hm1 hf1
        | succ c ih =>
          intro k m a a8 hc hk hm1 hf1 kk
          have e1 : (24 * k + c) / 24 = k := by omega
          have e2 : (24 * k + c) % 24 = c := by omega
          have ev : crV (inkR r l) (r 1) (24 * k + c) = cntN (fun i => decide (i < 24 ∧ dotB (inkR r l) k i = true)) c (r 1 + 1) := by
            unfold crV
            rw [e1, e2]
          have hle := cntN_le (fun i => decide (i < 24 ∧ dotB (inkR r l) k i = true)) c (r 1 + 1)
          rw [pk_m1]
          refine t_X8_crowd_42 (t_X8_crowd_44N (by omega) ?_)
          refine t_X8_crowd_47 (t_X8_crowd_48 (t_X8_crowd_49 (t_X8_crowd_51 (t_X8_crowd_53 h8 (Nat.le_of_ble_eq_true rfl) (sp_X8_within l k c hm hr (by omega) hk (by omega) ?_)))))
          rw [← ev] at hle ⊢
          have skip : (crV (inkR r l) (r 1) (24 * k + c) = 0 ∨ crV (inkR r l) (r 1) (24 * k + c) < m) → ∀ a8, gv_M ε (d + 2) m_X8_crowd sw.length Qs 80 [some (.ref 44), some (.int (nI l)), some (.int (nI w)), some (.int (nI m)), some (.int (if m = 0 then -9 else nI (a / 24))), some (.int (if m = 0 then -9 else nI (a % 24))), some (.int (nI k)), some (.int (nI c)), a8] [] sw 0 0 := by
            intro z a8
            refine t_X8_crowd_80 (t_X8_crowd_83 (?_))
            exact ih k m a a8 (by omega) hk hm1 (rMax_no hf1 z) kk
          refine t_X8_crowd_56 (t_X8_crowd_58 (t_X8_crowd_60 (fun h => ?_) (fun h => ?_)))
          · refine skip (Or.inl ?_) _
            have := (nI_leI (a := crV (inkR r l) (r 1) (24 * k + c)) (b := 0) (by omega) (by decide)).mp h
            omega
          · have hpos : 0 < crV (inkR r l) (r 1) (24 * k + c) := Nat.pos_of_ne_zero (fun z => h (by rw [z]; decide))
            refine t_X8_crowd_63 (t_X8_crowd_65 (t_X8_crowd_66N (by omega) (by omega) (fun g => ?_) (fun g => ?_)))
            · exact skip (Or.inr g) _
            · refine t_X8_crowd_69 (t_X8_crowd_71 (t_X8_crowd_72 (t_X8_crowd_74 (t_X8_crowd_76 (t_X8_crowd_78 (t_X8_crowd_80 (t_X8_crowd_83 (?_))))))))
              have := ih k (crV (inkR r l) (r 1) (24 * k + c)) (24 * k + c) (some (.int (nI (crV (inkR r l) (r 1) (24 * k + c))))) (by omega) hk (by omega) (rMax_up hf1 (by omega) g) kk
              rw [if_neg (by omega), if_neg (by omega), e1, e2] at this
              exact this
      have outer : ∀ (k m a : Nat) (a7 a8 : Option Value), k ≤ 8 → m < 100 → rMax (crV (inkR r l) (r 1)) (24 * k) 192 m a → gv_M ε (d + 2) m_X8_crowd sw.length Qs 33 [some (.ref 44), some (.int (nI l)), some (.int (nI w)), some (.int (nI m)), some (.int (if m = 0 then -9 else nI (a / 24))), some (.int (if m = 0 then -9 else nI (a % 24))), some (.int (nI k + (-1))), a7, a8] [] sw 0 0 := by
        intro k
        induction k with
        | zero =>
          intro m a a7 a8 hk hm1 hf1
          have fin := h1 l w m a hl hw rfl rfl (rMax_f hf1)
          rw [show nI 0 + (-1) = (-1 : Int32) by decide]
          refine t_X8_crowd_33 (t_X8_crowd_35 (fun h => ?_) (fun h => absurd (by decide) h))
          refine t_X8_crowd_92 (t_X8_crowd_93N (by omega) (fun g => ?_) (fun g => ?_))
          · refine t_X8_crowd_100 (t_X8_crowd_101 (t_X8_crowd_102N (by omega) (by omega) (fun z => ?_) (fun z => ?_)))
            · refine t_X8_crowd_110 (t_X8_crowd_112 ?_)
              unfold crI at fin
              rw [if_neg (by omega)] at fin
              by_cases q : m = 0
              · rw [if_pos q] at fin ⊢
                exact fin
              · rw [if_neg q, if_neg z] at fin
                rw [if_neg q]
                exact fin
            · refine t_X8_crowd_105 (t_X8_crowd_107 (t_X8_crowd_112 ?_))
              unfold crI at fin
              rw [if_neg (by omega)] at fin
              by_cases q : m = 0
              · rw [if_pos q] at fin ⊢
                exact fin
              · rw [if_neg q, if_pos z] at fin
                rw [if_neg q]
                exact fin
          · refine t_X8_crowd_96 (t_X8_crowd_97 (t_X8_crowd_112 ?_))
            unfold crI at fin
            rw [if_pos g] at fin
            exact fin
        | succ k ih =>
          intro m a a7 a8 hk hm1 hf1
          rw [pk_m1]
          refine t_X8_crowd_33 (t_X8_crowd_35N (by omega) ?_)
          refine t_X8_crowd_38 (t_X8_crowd_40 (?_))
          have := inner 24 k m a a8 (Nat.le_refl _) (by omega) hm1 (by rw [show 24 * k + 24 = 24 * (k + 1) by omega]; exact hf1) (fun m a a8 hm1 hf1 => ?_)
          · exact this
          · refine t_X8_crowd_86 (t_X8_crowd_89 (?_))
            exact ih m a _ _ (by omega) hm1 hf1
      refine t_X8_crowd_14 (fun _ => ?_) (fun h => absurd h (by decide))
      refine t_X8_crowd_19 (t_X8_crowd_20 (t_X8_crowd_21 (t_X8_crowd_23 (t_X8_crowd_25 (t_X8_crowd_27 (t_X8_crowd_29 (t_X8_crowd_31 (?_))))))))
      exact outer 8 0 0 _ _ (by decide) (by decide) ⟨fun q h1 h2 => absurd h2 (by omega), Or.inl rfl⟩
    · refine t_X8_crowd_14 (fun h => absurd rfl h) (fun _ => ?_)
      refine t_X8_crowd_17 (t_X8_crowd_18 ?_)
      exact h0 (fun ⟨_, w, _, q, _, q2⟩ => h w q q2)
  · refine t_X8_crowd_5 (fun _ => ?_) (fun h => absurd rfl h)
    refine t_X8_crowd_17 (t_X8_crowd_18 ?_)
    exact h0 (fun ⟨l, _, q, _, q2, _⟩ => h l q q2)
theorem sp_X8_isEasy (l e : Nat) (hm : qm r sw) (hr : roOk r) (hl : l < 4) (he : e ≤ 9) (h1 : isE (inkR r l) e → Qs (some (.int (nI 1))) sw) (h0 : ¬ isE (inkR r l) e → Qs (some (.int (nI 0))) sw) : gv_S ε (d + 1) m_X8_isEasy [.ref 44, .int (nI l), .int (nI e)] sw Qs := by
  obtain ⟨fs, h8, hf, hN⟩ := id hm
  have inner : ∀ (n a b : Nat), a < b → b + n = a + e + 1 → a < 24 → (∀ j, a < j → j < b → j < 24 → ∀ k, k < 8 → ¬ (dotB (inkR r l) k a = true ∧ dotB (inkR r l) k j = true)) → (∀ a4, (∀ j, a < j → j ≤ a + e → j < 24 → ∀ k, k < 8 → ¬ (dotB (inkR r l) k a = true ∧ dotB (inkR r l) k j = true)) → gv_M ε (d + 1) m_X8_isEasy sw.length Qs 53 [some (.ref 44), some (.int (nI l)), some (.int (nI e)), some (.int (nI a)), a4] [] sw 0 0) → gv_M ε (d + 1) m_X8_isEasy sw.length Qs 13 [some (.ref 44), some (.int (nI l)), some (.int (nI e)), some (.int (nI a)), some (.int (nI b))] [] sw 0 0 := by
    intro n
    induction n with
    | zero =>
      intro a b hab hbn ha hno kk
      have fin := kk (some (.int (nI b))) (fun j h1 h2 h3 => hno j h1 (by omega) h3)
      refine t_X8_isEasy_13 (t_X8_isEasy_15 (t_X8_isEasy_17N (by omega) (by omega) (fun h => fin) (fun h => ?_)))
      refine t_X8_isEasy_20 (t_X8_isEasy_22 (t_X8_isEasy_23 (t_X8_isEasy_24N (t_X8_isEasy_25N (by omega) (by omega) (fun h => fin) (fun h => absurd h (by omega))))))
    | succ n ih =>
      intro a b hab hbn ha hno kk
      refine t_X8_isEasy_13 (t_X8_isEasy_15 (t_X8_isEasy_17N (by omega) (by omega) (fun h => ?_) (fun h => ?_)))
      · exact kk _ (fun j h1 h2 h3 => hno j h1 (by omega) h3)
      · refine t_X8_isEasy_20 (t_X8_isEasy_22 (t_X8_isEasy_23 (t_X8_isEasy_24N (t_X8_isEasy_25N (by omega) (by omega) (fun h => absurd h (by omega)) (fun g => ?_)))))
        have i1 := inkR_le hr hl (c := a) ha
        have i2 := inkR_le hr hl (c := b) h
        refine t_X8_isEasy_28 (t_X8_isEasy_29 (t_X8_isEasy_30 (t_X8_isEasy_31 h8 (Nat.le_of_ble_eq_true rfl) (sp_X8_dotsAt l a hm hr hl ha ?_))))
        refine t_X8_isEasy_34 (t_X8_isEasy_35 (t_X8_isEasy_36 (t_X8_isEasy_38 h8 (Nat.le_of_ble_eq_true rfl) (sp_X8_dotsAt l b hm hr hl h ?_))))
        refine t_X8_isEasy_41 (?_)
        rw [nI_and]
        have hz := and_zero (x := inkR r l a) (y := inkR r l b) (by omega) (by omega)
        have hlt : inkR r l a &&& inkR r l b < 2 ^ 31 := Nat.lt_of_le_of_lt Nat.and_le_left (by omega)
        refine t_X8_isEasy_42N hlt (fun z => ?_) (fun z => ?_)
        · refine t_X8_isEasy_47N (t_X8_isEasy_50 (?_))
          refine ih a (b + 1) (by omega) (by omega) ha (fun j h1 h2 h3 k hk hb => ?_) kk
          rcases Nat.lt_or_ge j b with y | y
          · exact hno j h1 y h3 k hk hb
          · have e1 : j = b := by omega
            subst e1
            exact hz.mp z k hk ⟨beq_iff_eq.mp hb.1, beq_iff_eq.mp hb.2⟩
        · refine t_X8_isEasy_45 (t_X8_isEasy_46 rfl ?_)
          refine h0 (fun hE => ?_)
          have : inkR r l a &&& inkR r l b = 0 := hz.mpr (fun k hk hb => by
            have := hE k hk a b hab h (beq_iff_eq.mpr hb.1) (beq_iff_eq.mpr hb.2)
            omega)
          omega
  have outer : ∀ (n a : Nat) (a4 : Option Value), a + n = 24 → (∀ i j, i < a → i < j → j ≤ i + e → j < 24 → ∀ k, k < 8 → ¬ (dotB (inkR r l) k i = true ∧ dotB (inkR r l) k j = true)) → gv_M ε (d + 1) m_X8_isEasy sw.length Qs 2 [some (.ref 44), some (.int (nI l)), some (.int (nI e)), some (.int (nI a)), a4] [] sw 0 0 := by
    intro n
    induction n with
    | zero =>
      intro a a4 han hno
      refine t_X8_isEasy_2 (t_X8_isEasy_3 (t_X8_isEasy_5N (by omega) (by omega) (fun h => ?_) (fun h => absurd h (by omega))))
      refine t_X8_isEasy_59 (t_X8_isEasy_60 rfl ?_)
      refine h1 (fun k hk i j hij hj d1 d2 => ?_)
      rcases Nat.lt_or_ge (i + e) j with y | y
      · omega
      · exact absurd ⟨d1, d2⟩ (hno i j (by omega) hij y hj k hk)
    | succ n ih =>
      intro a a4 han hno
      refine t_X8_isEasy_2 (t_X8_isEasy_3 (t_X8_isEasy_5N (by omega) (by omega) (fun h => absurd h (by omega)) (fun h => ?_)))
      refine t_X8_isEasy_8 (t_X8_isEasy_9 (t_X8_isEasy_10N (t_X8_isEasy_11 (?_))))
      refine inner e a (a + 1) (by omega) (by omega) (by omega) (fun j h1 h2 => by omega) (fun a4 hrow => ?_)
      refine t_X8_isEasy_53N (t_X8_isEasy_56 (?_))
      refine ih (a + 1) _ (by omega) (fun i j hi hij hj hj2 k hk => ?_)
      rcases Nat.lt_or_ge i a with y | y
      · exact hno i j y hij hj hj2 k hk
      · have e1 : i = a := by omega
        subst e1
        exact hrow j hij hj hj2 k hk
  refine gv_S.go rfl ?_
  refine t_X8_isEasy_0 (t_X8_isEasy_1 (?_))
  exact outer 24 0 _ (by decide) (fun i j hi => absurd hi (by omega))
theorem sp_X8_easy (x : Int32) (hm : qm r sw) (hr : roOk r) (h1 : ∀ l e, l < r 21 → x = nI l → ezP (inkR r l) e → Qs (some (.int (nI e))) sw) (h0 : (∀ l, l < r 21 → x ≠ nI l) → Qs (some (.int (-1))) sw) : gv_S ε (d + 2) m_X8_easy [.ref 44, .int x] sw Qs := by
  obtain ⟨fs, h8, hf, hN⟩ := id hm
  have hn := hr.2.2.2.2.1
  refine gv_S.go rfl ?_
  refine t_X8_easy_0 (t_X8_easy_1 (t_X8_easy_2 h8 (Nat.le_of_ble_eq_true rfl) (sp_X8_isLine x hm hn (fun l hl e => ?_) (fun h => ?_))))
  · subst e
    have loop : ∀ (e : Nat), e ≤ 9 → (e = 9 ∨ ¬ isE (inkR r l) (e + 1)) → gv_M ε (d + 2) m_X8_easy sw.length Qs 13 [some (.ref 44), some (.int (nI l)), some (.int (nI e))] [] sw 0 0 := by
      intro e
      induction e with
      | zero =>
        intro he hE
        refine t_X8_easy_13 (t_X8_easy_14 (t_X8_easy_15 (t_X8_easy_16 h8 (Nat.le_of_ble_eq_true rfl) (sp_X8_isEasy l 0 hm hr (by omega) he (fun hy => ?_) (fun hy => absurd (fun k hk i j hij hj _ _ => by omega) hy)))))
        refine t_X8_easy_19 (fun _ => ?_) (fun h => absurd h (by decide))
        refine t_X8_easy_28 (t_X8_easy_29 ?_)
        exact h1 l 0 hl rfl ⟨he, hy, hE⟩
      | succ e ih =>
        intro he hE
        refine t_X8_easy_13 (t_X8_easy_14 (t_X8_easy_15 (t_X8_easy_16 h8 (Nat.le_of_ble_eq_true rfl) (sp_X8_isEasy l (e + 1) hm hr (by omega) he (fun hy => ?_) (fun hy => ?_)))))
        · refine t_X8_easy_19 (fun _ => ?_) (fun h => absurd h (by decide))
          refine t_X8_easy_28 (t_X8_easy_29 ?_)
          exact h1 l (e + 1) hl rfl ⟨he, hy, hE⟩
        · refine t_X8_easy_19 (fun h => absurd rfl h) (fun _ => ?_)
          refine t_X8_easy_22 (t_X8_easy_25 (?_))
          rw [pk_m1]
          exact ih (by omega) (Or.inr hy)
    refine t_X8_easy_5 (fun _ => ?_) (fun h => absurd h (by decide))
    refine t_X8_easy_10 (t_X8_easy_12 (?_))
    exact loop 9 (by decide) (Or.inl rfl)
  · refine t_X8_easy_5 (fun h => absurd rfl h) (fun _ => ?_)
    refine t_X8_easy_8 (t_X8_easy_9 ?_)
    exact h0 h
theorem sp_X8_without (l : Nat) (x : Int32) (hm : qm r sw) (hr : roOk r) (hl : l < 4) (hq : Qs (some (.int (nI (woN (inkR r l) x)))) sw) : gv_S ε (d + 2) m_X8_without [.ref 44, .int (nI l), .int x] sw Qs := by
  obtain ⟨fs, h8, hf, hN⟩ := id hm
  have loop : ∀ (n k : Nat), k + n = 8 → gv_M ε (d + 2) m_X8_without sw.length Qs 5 [some (.ref 44), some (.int (nI l)), some (.int x), some (.int (nI (sumN (fun k => if nI k = x then 0 else amtN (inkR r l) k) k))), some (.int (nI k))] [] sw 0 0 := by
    intro n
    induction n with
    | zero =>
      intro k hk
      refine t_X8_without_5 (t_X8_without_7 (t_X8_without_9N (by omega) (by omega) (fun h => ?_) (fun h => absurd h (by omega))))
      refine t_X8_without_38 (t_X8_without_39 ?_)
      rw [show k = 8 by omega]
      exact hq
    | succ n ih =>
      intro k hk
      have := ih (k + 1) (by omega)
      unfold sumN at this
      refine t_X8_without_5 (t_X8_without_7 (t_X8_without_9N (by omega) (by omega) (fun h => absurd h (by omega)) (fun h => ?_)))
      refine t_X8_without_12 (t_X8_without_13 (t_X8_without_15 (t_X8_without_16 (fun g => ?_) (fun g => ?_))))
      · refine t_X8_without_23 (t_X8_without_24 (t_X8_without_25 (t_X8_without_27 h8 (Nat.le_of_ble_eq_true rfl) (sp_X8_dotMany l k hm hr hl (by omega) ?_))))
        refine t_X8_without_30N (t_X8_without_31 (t_X8_without_32N (t_X8_without_35 (?_))))
        rw [if_neg g] at this
        exact this
      · refine t_X8_without_19 (t_X8_without_20 (t_X8_without_30N (t_X8_without_31 (t_X8_without_32N (t_X8_without_35 (?_))))))
        rw [if_pos g] at this
        exact this
  refine gv_S.go rfl ?_
  refine t_X8_without_0 (t_X8_without_1 (t_X8_without_2 (t_X8_without_3 (?_))))
  exact loop 8 0 (by decide)
theorem sp_X8_passes (x : Int32) (hm : qm r sw) (hr : roOk r) (h1 : ∀ l, l < r 21 → x = nI l → Qs (some (.int (nI (npN (inkR r l) (r 1) 8)))) sw) (h0 : (∀ l, l < r 21 → x ≠ nI l) → Qs (some (.int (-1))) sw) : gv_S ε (d + 4) m_X8_passes [.ref 44, .int x] sw Qs := by
  obtain ⟨fs, h8, hf, hN⟩ := id hm
  have hn := hr.2.2.2.2.1
  refine gv_S.go rfl ?_
  refine t_X8_passes_0 (t_X8_passes_1 (t_X8_passes_2 h8 (Nat.le_of_ble_eq_true rfl) (sp_X8_isLine x hm hn (fun l hl e => ?_) (fun h => ?_))))
  · subst e
    refine t_X8_passes_5 (fun h => absurd h (by decide)) (fun _ => ?_)
    refine t_X8_passes_8 (t_X8_passes_9 (t_X8_passes_10 h8 (Nat.le_of_ble_eq_true rfl) (sp_X8_passesOf l hm hr (by omega) ?_)))
    refine t_X8_passes_13 (t_X8_passes_17 ?_)
    exact h1 l hl rfl
  · refine t_X8_passes_5 (fun _ => ?_) (fun h => absurd rfl h)
    refine t_X8_passes_16 (t_X8_passes_17 ?_)
    exact h0 h
theorem sp_X8_isDot (y z : Int32) (h1 : ∀ k c, k < 8 → c < 24 → y = nI k → z = nI c → Qs (some (.int (nI 1))) sw) (h0 : ¬ (∃ k c, k < 8 ∧ c < 24 ∧ y = nI k ∧ z = nI c) → Qs (some (.int (nI 0))) sw) : gv_S ε (d + 1) m_X8_isDot [.int y, .int z] sw Qs := by
  refine gv_S.go rfl ?_
  refine t_X8_isDot_0 (t_X8_isDot_1 (t_X8_isDot_2 (t_X8_isDot_4 (Nat.le_of_ble_eq_true rfl) (sp_X8_inN y 7 (by decide) (fun k hk e => ?_) (fun h => ?_)))))
  · refine t_X8_isDot_7 (fun h => absurd h (by decide)) (fun _ => ?_)
    refine t_X8_isDot_10 (t_X8_isDot_11 (t_X8_isDot_12 (t_X8_isDot_14 (Nat.le_of_ble_eq_true rfl) (sp_X8_inN z 23 (by decide) (fun c hc e2 => ?_) (fun h => ?_)))))
    · refine t_X8_isDot_17 (fun h => absurd h (by decide)) (fun _ => ?_)
      refine t_X8_isDot_20 (t_X8_isDot_21 (t_X8_isDot_25 rfl ?_))
      exact h1 k c (by omega) (by omega) e e2
    · refine t_X8_isDot_17 (fun _ => ?_) (fun h => absurd rfl h)
      refine t_X8_isDot_24 (t_X8_isDot_25 rfl ?_)
      exact h0 (fun ⟨_, c, _, q, _, q2⟩ => h c (by omega) q2)
  · refine t_X8_isDot_7 (fun _ => ?_) (fun h => absurd rfl h)
    refine t_X8_isDot_24 (t_X8_isDot_25 rfl ?_)
    exact h0 (fun ⟨k, _, q, _, q2, _⟩ => h k (by omega) q2)
theorem sp_X8_pass (x y z : Int32) (hm : qm r sw) (hr : roOk r) (h1 : ∀ l k c, l < r 21 → k < 8 → c < 24 → x = nI l → y = nI k → z = nI c → Qs (some (.int (if dotB (inkR r l) k c = true then nI (pas (dotB (inkR r l) k) (r 1) c) else -9))) sw) (h0 : ¬ (∃ l k c, l < r 21 ∧ k < 8 ∧ c < 24 ∧ x = nI l ∧ y = nI k ∧ z = nI c) → Qs (some (.int (-1))) sw) : gv_S ε (d + 3) m_X8_pass [.ref 44, .int x, .int y, .int z] sw Qs := by
  obtain ⟨fs, h8, hf, hN⟩ := id hm
  have hn := hr.2.2.2.2.1
  have hr1 := hr.2.1
  refine gv_S.go rfl ?_
  refine t_X8_pass_0 (t_X8_pass_1 (t_X8_pass_2 h8 (Nat.le_of_ble_eq_true rfl) (sp_X8_isLine x hm hn (fun l hl e => ?_) (fun h => ?_))))
  · refine t_X8_pass_5 (fun h => absurd h (by decide)) (fun _ => ?_)
    refine t_X8_pass_8 (t_X8_pass_9 (t_X8_pass_10 (Nat.le_of_ble_eq_true rfl) (sp_X8_isDot y z (fun k c hk hc e2 e3 => ?_) (fun h => ?_))))
    · subst e
      subst e2
      subst e3
      have fin := h1 l k c hl hk hc rfl rfl rfl
      have loop : ∀ (n p : Nat), p + n = 24 → (dotB (inkR r l) k c = true → p ≤ pas (dotB (inkR r l) k) (r 1) c) → gv_M ε (d + 3) m_X8_pass sw.length Qs 21 [some (.ref 44), some (.int (nI l)), some (.int (nI k)), some (.int (nI c)), some (.int (nI p))] [] sw 0 0 := by
        intro n
        induction n with
        | zero =>
          intro p hp hle
          refine t_X8_pass_21 (t_X8_pass_23 (t_X8_pass_25N (by omega) (by omega) (fun h => ?_) (fun h => absurd h (by omega))))
          refine t_X8_pass_52 (t_X8_pass_54 ?_)
          rw [if_neg (fun q => by
            have := hle q
            have := pas_le (r := r 1) hc q
            omega)] at fin
          exact fin
        | succ n ih =>
          intro p hp hle
          have hb := bitsN_lt (layB (inkR r l) (r 1) k p) 24
          refine t_X8_pass_21 (t_X8_pass_23 (t_X8_pass_25N (by omega) (by omega) (fun h => absurd h (by omega)) (fun h => ?_)))
          refine t_X8_pass_28 (t_X8_pass_29 (t_X8_pass_30 (t_X8_pass_31 (t_X8_pass_33 h8 (Nat.le_of_ble_eq_true rfl) (sp_X8_columnsIn l k p hm hr (by omega) hk (by omega) ?_)))))
          refine t_X8_pass_36 (t_X8_pass_37 (Nat.le_of_ble_eq_true rfl) (sp_X8_has _ c (by omega) (by omega) ?_))
          rw [bitsN_dm _ hc]
          by_cases q : layB (inkR r l) (r 1) k p c = true
          · rw [if_pos q]
            unfold layB at q
            rw [Bool.and_eq_true, beq_iff_eq] at q
            refine t_X8_pass_40 (fun h => absurd h (by decide)) (fun _ => ?_)
            refine t_X8_pass_43 (t_X8_pass_45 ?_)
            rw [if_pos q.1, q.2] at fin
            exact fin
          · rw [if_neg q]
            refine t_X8_pass_40 (fun _ => ?_) (fun h => absurd rfl h)
            refine t_X8_pass_46N (t_X8_pass_49 (?_))
            refine ih (p + 1) (by omega) (fun hd => ?_)
            have := hle hd
            have : ¬ pas (dotB (inkR r l) k) (r 1) c = p := fun z => q (by
              unfold layB
              rw [Bool.and_eq_true, beq_iff_eq]
              exact ⟨hd, z⟩)
            omega
      refine t_X8_pass_13 (fun _ => ?_) (fun h => absurd h (by decide))
      refine t_X8_pass_18 (t_X8_pass_19 (?_))
      exact loop 24 0 (by decide) (fun _ => Nat.zero_le _)
    · refine t_X8_pass_13 (fun h => absurd rfl h) (fun _ => ?_)
      refine t_X8_pass_16 (t_X8_pass_17 ?_)
      exact h0 (fun ⟨_, k, c, _, q, q1, _, q2, q3⟩ => h ⟨k, c, q, q1, q2, q3⟩)
  · refine t_X8_pass_5 (fun _ => ?_) (fun h => absurd rfl h)
    refine t_X8_pass_16 (t_X8_pass_17 ?_)
    exact h0 (fun ⟨l, _, _, q, _, _, q2, _, _⟩ => h l q q2)
theorem sp_X8_headAt (k c : Nat) (hm : qm r sw) (hk : k < 8) (hcc : c < 24) (hq : Qs (some (.int (headR r k c))) sw) : gv_S ε d m_X8_headAt [.ref 44, .int (nI k), .int (nI c)] sw Qs := by
  obtain ⟨fs, h8, hf, hN⟩ := id hm
  refine gv_S.go rfl ?_
  unfold headR at hq
  refine t_X8_headAt_0 (t_X8_headAt_1 (t_X8_headAt_2N (by omega) (by decide) (by decide) (t_X8_headAt_3N (by omega) (fun h => ?_) (fun h => ?_))))
  · refine t_X8_headAt_10 (t_X8_headAt_11 (t_X8_headAt_12 h8 hf (t_X8_headAt_15 (t_X8_headAt_16 hN 0 (by decide) rfl (by decide) (t_X8_headAt_17 (t_X8_headAt_18 ?_))))))
    rw [if_neg (by omega)] at hq
    exact hq
  · refine t_X8_headAt_6 (t_X8_headAt_7 (t_X8_headAt_18 ?_))
    rw [if_pos h] at hq
    exact hq
theorem sp_X8_stands (x y z : Int32) (hm : qm r sw) (hr : roOk r) (h1 : ∀ l k c, l < r 21 → k < 8 → c < 24 → x = nI l → y = nI k → z = nI c → Qs (some (.int (if dotB (inkR r l) k c = true then headR r k c else -1000000))) sw) (h0 : ¬ (∃ l k c, l < r 21 ∧ k < 8 ∧ c < 24 ∧ x = nI l ∧ y = nI k ∧ z = nI c) → Qs (some (.int (-1000000))) sw) : gv_S ε (d + 3) m_X8_stands [.ref 44, .int x, .int y, .int z] sw Qs := by
  obtain ⟨fs, h8, hf, hN⟩ := id hm
  have hn := hr.2.2.2.2.1
  refine gv_S.go rfl ?_
  refine t_X8_stands_0 (t_X8_stands_1 (t_X8_stands_2 h8 (Nat.le_of_ble_eq_true rfl) (sp_X8_isLine x hm hn (fun l hl e => ?_) (fun h => ?_))))
  · refine t_X8_stands_5 (fun h => absurd h (by decide)) (fun _ => ?_)
    refine t_X8_stands_8 (t_X8_stands_9 (t_X8_stands_10 (Nat.le_of_ble_eq_true rfl) (sp_X8_isDot y z (fun k c hk hc e2 e3 => ?_) (fun h => ?_))))
    · subst e
      subst e2
      subst e3
      have fin := h1 l k c hl hk hc rfl rfl rfl
      have hi := inkR_le hr (l := l) (by omega) hc
      refine t_X8_stands_13 (fun h => absurd h (by decide)) (fun _ => ?_)
      refine t_X8_stands_16 (t_X8_stands_17 (t_X8_stands_18 (t_X8_stands_19 h8 (Nat.le_of_ble_eq_true rfl) (sp_X8_dotsAt l c hm hr (by omega) hc ?_))))
      refine t_X8_stands_22 (t_X8_stands_23 (Nat.le_of_ble_eq_true rfl) (sp_X8_has _ k (by omega) (by omega) ?_))
      by_cases q : inkR r l c / 2 ^ k % 2 = 1
      · rw [if_pos (show dotB (inkR r l) k c = true from beq_iff_eq.mpr q)] at fin
        rw [q]
        refine t_X8_stands_26 (fun h => absurd h (by decide)) (fun _ => ?_)
        refine t_X8_stands_29 (t_X8_stands_30 (t_X8_stands_31 (t_X8_stands_32 h8 (Nat.le_of_ble_eq_true rfl) (sp_X8_headAt k c hm hk hc ?_))))
        refine t_X8_stands_35 (t_X8_stands_40 ?_)
        exact fin
      · rw [if_neg (show ¬ dotB (inkR r l) k c = true from fun z => q (beq_iff_eq.mp z))] at fin
        rw [show inkR r l c / 2 ^ k % 2 = 0 by omega]
        refine t_X8_stands_26 (fun _ => ?_) (fun h => absurd rfl h)
        refine t_X8_stands_38 (t_X8_stands_40 ?_)
        exact fin
    · refine t_X8_stands_13 (fun _ => ?_) (fun h => absurd rfl h)
      refine t_X8_stands_38 (t_X8_stands_40 ?_)
      exact h0 (fun ⟨_, k, c, _, q, q1, _, q2, q3⟩ => h ⟨k, c, q, q1, q2, q3⟩)
  · refine t_X8_stands_5 (fun _ => ?_) (fun h => absurd rfl h)
    refine t_X8_stands_38 (t_X8_stands_40 ?_)
    exact h0 (fun ⟨l, _, _, q, _, _, q2, _, _⟩ => h l q q2)
theorem sp_X8_ofLines (p : Nat) (hm : qm r sw) (hr : roOk r) (hp : p ≤ 1) (hq : Qs (some (.int (nI (sumN (fun l => if p = 1 then npN (inkR r l) (r 1) 8 else totN (inkR r l)) (r 21))))) sw) : gv_S ε (d + 4) m_X8_ofLines [.ref 44, .int (nI p)] sw Qs := by
  obtain ⟨fs, h8, hf, hN⟩ := id hm
  have hn := hr.2.2.2.2.1
  have loop : ∀ (n l : Nat), l + n = r 21 → gv_M ε (d + 4) m_X8_ofLines sw.length Qs 4 [some (.ref 44), some (.int (nI p)), some (.int (nI (sumN (fun l => if p = 1 then npN (inkR r l) (r 1) 8 else totN (inkR r l)) l))), some (.int (nI l))] [] sw 0 0 := by
    intro n
    induction n with
    | zero =>
      intro l hl
      refine t_X8_ofLines_4 (t_X8_ofLines_5 (t_X8_ofLines_6 h8 hf (t_X8_ofLines_9 (t_X8_ofLines_11 hN 21 (by decide) rfl (by decide) (t_X8_ofLines_12N (by omega) (by omega) (fun h => ?_) (fun h => absurd h (by omega)))))))
      refine t_X8_ofLines_42 (t_X8_ofLines_43 ?_)
      rw [show l = r 21 by omega]
      exact hq
    | succ n ih =>
      intro l hl
      have := ih (l + 1) (by omega)
      unfold sumN at this
      refine t_X8_ofLines_4 (t_X8_ofLines_5 (t_X8_ofLines_6 h8 hf (t_X8_ofLines_9 (t_X8_ofLines_11 hN 21 (by decide) rfl (by decide) (t_X8_ofLines_12N (by omega) (by omega) (fun h => absurd h (by omega)) (fun h => ?_))))))
      refine t_X8_ofLines_15 (t_X8_ofLines_16 (t_X8_ofLines_17N (by omega) (fun z => ?_) (fun z => ?_)))
      · refine t_X8_ofLines_28 (t_X8_ofLines_29 (t_X8_ofLines_30 (t_X8_ofLines_31 h8 (Nat.le_of_ble_eq_true rfl) (sp_X8_without l (-1) hm hr (by omega) ?_))))
        rw [woN_m1]
        refine t_X8_ofLines_34N (t_X8_ofLines_35 (t_X8_ofLines_36N (t_X8_ofLines_39 (?_))))
        rw [if_neg (by omega)] at this
        exact this
      · refine t_X8_ofLines_20 (t_X8_ofLines_21 (t_X8_ofLines_22 h8 (Nat.le_of_ble_eq_true rfl) (sp_X8_passesOf l hm hr (by omega) ?_)))
        refine t_X8_ofLines_25 (t_X8_ofLines_34N (t_X8_ofLines_35 (t_X8_ofLines_36N (t_X8_ofLines_39 (?_)))))
        rw [if_pos (by omega)] at this
        exact this
  refine gv_S.go rfl ?_
  refine t_X8_ofLines_0 (t_X8_ofLines_1 (t_X8_ofLines_2 (t_X8_ofLines_3 (?_))))
  exact loop (r 21) 0 (by omega)
end S8
