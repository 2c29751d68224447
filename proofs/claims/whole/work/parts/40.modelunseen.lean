/-! the model: which needle is stuck -/
section S8
variable {ε : gv_E} {d : Nat} {Qs : Option Value → List va_E → Prop} {sw : List va_E} {v : Nat → Int32} {ch : Int64} {A : Nat → Nat → Nat} {lz hz : Nat → Int32}
theorem sp_X8_unseenSet {kn : Nat} (hm : wt 44 (moF v ch A lz hz) sw) (hr : roOk (A 0)) (hv : v 8 = nI kn) (hS : siOk kn (A 6) (A 7)) (hq : Qs (some (.int (nI (unV (inkR (A 0)) (A 0 21) (A 6) (A 7) kn)))) sw) : gv_S ε (d + 3) m_X8_unseenSet [.ref 44] sw Qs := by
  have h8 : sw[44]? = some (.inr (8, moO v ch)) := hm.at 0 rfl
  have hL : sw[53]? = some (.inl (0, 6, .inl (fun i => nI (A 6 i)))) := hm.at 9 rfl
  have hU : sw[54]? = some (.inl (0, 6, .inl (fun i => nI (A 7 i)))) := hm.at 10 rfl
  have hqm := moF.qm hm
  have hn := hr.2.2.2.2.1
  have f17 : (moO v ch)[17]? = some (.int (nI kn)) := by
    show some (Value.int (v 8)) = _
    rw [hv]
  obtain ⟨q1, q2⟩ := hS
  have inner : ∀ (n i k w : Nat), i + n = kn → k < 8 → (∀ a4, gv_M ε (d + 3) m_X8_unseenSet sw.length Qs 76 [some (.ref 44), some (.int (nI w)), some (.int (nI k)), some (.int (nI (if unB (inkR (A 0)) (A 0 21) (A 6) (A 7) k kn = true then 1 else 0))), a4] [] sw 0 0) → gv_M ε (d + 3) m_X8_unseenSet sw.length Qs 15 [some (.ref 44), some (.int (nI w)), some (.int (nI k)), some (.int (nI (if unB (inkR (A 0)) (A 0 21) (A 6) (A 7) k i = true then 1 else 0))), some (.int (nI i))] [] sw 0 0 := by
    intro n
    induction n with
    | zero =>
      intro i k w hi hk kk
      refine t_X8_unseenSet_15 (t_X8_unseenSet_17 (t_X8_unseenSet_18 h8 f17 (t_X8_unseenSet_21N (by omega) (by omega) (fun h => ?_) (fun h => absurd h (by omega)))))
      have e : i = kn := by omega
      subst e
      exact kk _
    | succ n ih =>
      intro i k w hi hk kk
      have go := ih (i + 1) k w (by omega) hk kk
      have hs : unB (inkR (A 0)) (A 0 21) (A 6) (A 7) k (i + 1) = (unB (inkR (A 0)) (A 0 21) (A 6) (A 7) k i && decide (xpP (inkR (A 0)) (A 0 21) (A 6 i) (A 7 i) k)) := rfl
      rw [hs] at go
      obtain ⟨q3, q4⟩ := q2 i (by omega)
      refine t_X8_unseenSet_15 (t_X8_unseenSet_17 (t_X8_unseenSet_18 h8 f17 (t_X8_unseenSet_21N (by omega) (by omega) (fun h => absurd h (by omega)) (fun h => ?_))))
      by_cases hu : unB (inkR (A 0)) (A 0 21) (A 6) (A 7) k i = true
      · rw [if_pos hu]
        rw [hu, Bool.true_and] at go
        refine t_X8_unseenSet_24 (t_X8_unseenSet_25 (fun h => absurd h (by decide)) (fun _ => ?_))
        refine t_X8_unseenSet_28 (t_X8_unseenSet_29 (t_X8_unseenSet_30 h8 rfl (t_X8_unseenSet_33 (t_X8_unseenSet_35 hL i (by omega) rfl (by decide) (t_X8_unseenSet_36 h8 (Nat.le_of_ble_eq_true rfl) (sp_X8_isLine (nI (A 6 i)) hqm hn (fun j hj e => ?_) (fun h => ?_)))))))
        · have e2 := nI_inj (by omega) (by omega) e
          subst e2
          have hwo := woN_at (inkR (A 0) (A 6 i)) hk
          have hwl := woN_le (inkR (A 0) (A 6 i)) (nI k)
          refine t_X8_unseenSet_39 (fun h => absurd h (by decide)) (fun _ => ?_)
          refine t_X8_unseenSet_42 (t_X8_unseenSet_43 (t_X8_unseenSet_44 h8 rfl (t_X8_unseenSet_47 (t_X8_unseenSet_49 hL i (by omega) rfl (by decide) (t_X8_unseenSet_50 (t_X8_unseenSet_51 h8 (Nat.le_of_ble_eq_true rfl) (sp_X8_without (A 6 i) (nI k) hqm hr q3 ?_)))))))
          refine t_X8_unseenSet_54 (t_X8_unseenSet_55 h8 rfl (t_X8_unseenSet_58 (t_X8_unseenSet_60 hU i (by omega) rfl (by decide) (t_X8_unseenSet_61N (by omega) (by omega) (fun g => ?_) (fun g => ?_)))))
          · refine t_X8_unseenSet_68 (t_X8_unseenSet_69 (t_X8_unseenSet_70N (t_X8_unseenSet_73 (?_))))
            rw [if_neg (fun z => by
              have := (of_decide_eq_true z).2
              omega)] at go
            exact go
          · refine t_X8_unseenSet_64 (t_X8_unseenSet_65 (t_X8_unseenSet_69 (t_X8_unseenSet_70N (t_X8_unseenSet_73 (?_)))))
            rw [if_pos (decide_eq_true ⟨hj, by omega⟩)] at go
            exact go
        · refine t_X8_unseenSet_39 (fun _ => ?_) (fun h => absurd rfl h)
          refine t_X8_unseenSet_68 (t_X8_unseenSet_69 (t_X8_unseenSet_70N (t_X8_unseenSet_73 (?_))))
          rw [if_neg (fun z => h _ (of_decide_eq_true z).1 rfl)] at go
          exact go
      · rw [if_neg hu]
        rw [if_neg (fun z => hu (by rw [Bool.and_eq_true] at z; exact z.1))] at go
        refine t_X8_unseenSet_24 (t_X8_unseenSet_25 (fun _ => ?_) (fun h => absurd rfl h))
        refine t_X8_unseenSet_68 (t_X8_unseenSet_69 (t_X8_unseenSet_70N (t_X8_unseenSet_73 (?_))))
        exact go
  have outer : ∀ (n k : Nat) (a3 a4 : Option Value), k + n = 8 → gv_M ε (d + 3) m_X8_unseenSet sw.length Qs 4 [some (.ref 44), some (.int (nI (bitsN (fun k => unB (inkR (A 0)) (A 0 21) (A 6) (A 7) k kn) k))), some (.int (nI k)), a3, a4] [] sw 0 0 := by
    intro n
    induction n with
    | zero =>
      intro k a3 a4 hk
      refine t_X8_unseenSet_4 (t_X8_unseenSet_5 (t_X8_unseenSet_7N (by omega) (by omega) (fun h => ?_) (fun h => absurd h (by omega))))
      refine t_X8_unseenSet_96 (t_X8_unseenSet_97 ?_)
      rw [show k = 8 by omega]
      exact hq
    | succ n ih =>
      intro k a3 a4 hk
      refine t_X8_unseenSet_4 (t_X8_unseenSet_5 (t_X8_unseenSet_7N (by omega) (by omega) (fun h => absurd h (by omega)) (fun h => ?_)))
      refine t_X8_unseenSet_10 (t_X8_unseenSet_11 (t_X8_unseenSet_12 (t_X8_unseenSet_13 (?_))))
      refine inner kn 0 k _ (by omega) (by omega) (fun a4 => ?_)
      have go := fun a3 a4 => ih (k + 1) a3 a4 (by omega)
      unfold bitsN at go
      by_cases hu : unB (inkR (A 0)) (A 0 21) (A 6) (A 7) k kn = true
      · rw [if_pos hu]
        refine t_X8_unseenSet_76 (t_X8_unseenSet_77 (t_X8_unseenSet_78 (fun h => absurd h (by decide)) (fun _ => ?_)))
        refine t_X8_unseenSet_81 (t_X8_unseenSet_82 (t_X8_unseenSet_83 (t_X8_unseenSet_84 (?_))))
        rw [nI_sh k (by omega)]
        refine t_X8_unseenSet_88 (?_)
        rw [nI_or, bits_or]
        refine t_X8_unseenSet_89 (t_X8_unseenSet_90N (t_X8_unseenSet_93 (?_)))
        have := go (some (.int (nI 1))) a4
        rw [if_pos hu] at this
        exact this
      · rw [if_neg hu]
        refine t_X8_unseenSet_76 (t_X8_unseenSet_77 (t_X8_unseenSet_78 (fun _ => ?_) (fun h => absurd rfl h)))
        refine t_X8_unseenSet_87 (t_X8_unseenSet_88 (?_))
        rw [nI_or, Nat.or_zero]
        refine t_X8_unseenSet_89 (t_X8_unseenSet_90N (t_X8_unseenSet_93 (?_)))
        have := go (some (.int (nI 0))) a4
        rw [if_neg hu] at this
        exact this
  refine gv_S.go rfl ?_
  refine t_X8_unseenSet_0 (t_X8_unseenSet_1 (t_X8_unseenSet_2 (t_X8_unseenSet_3 (?_))))
  exact outer 8 0 _ _ (by decide)
theorem sp_X8_unseen {kn : Nat} (hm : wt 44 (moF v ch A lz hz) sw) (hr : roOk (A 0)) (hv : v 8 = nI kn) (hS : siOk kn (A 6) (A 7)) (hq : Qs (some (.int (nI (unV (inkR (A 0)) (A 0 21) (A 6) (A 7) kn)))) sw) : gv_S ε (d + 4) m_X8_unseen [.ref 44] sw Qs := by
  have h8 : sw[44]? = some (.inr (8, moO v ch)) := hm.at 0 rfl
  refine gv_S.go rfl ?_
  refine t_X8_unseen_0 (t_X8_unseen_1 h8 (Nat.le_of_ble_eq_true rfl) (sp_X8_unseenSet hm hr hv hS ?_))
  refine t_X8_unseen_4 ?_
  exact hq
theorem sp_X8_unlike (l w : Nat) {r : Nat → Nat} (hm : qm r sw) (hr : roOk r) (hl : l < 4) (hw : w < 256) (hq : Qs (some (.int (nI (unlN (inkR r l) w)))) sw) : gv_S ε (d + 3) m_X8_unlike [.ref 44, .int (nI l), .int (nI w)] sw Qs := by
  obtain ⟨fs, h8, hf, hN⟩ := id hm
  have inner : ∀ (n b a w2 : Nat), b + n = a → a < 8 → (∀ a6, gv_M ε (d + 3) m_X8_unlike sw.length Qs 74 [some (.ref 44), some (.int (nI l)), some (.int (nI w)), some (.int (nI w2)), some (.int (nI a)), some (.int (nI (if fsB (inkR r l) w a = true then 1 else 0))), a6] [] sw 0 0) → gv_M ε (d + 3) m_X8_unlike sw.length Qs 23 [some (.ref 44), some (.int (nI l)), some (.int (nI w)), some (.int (nI w2)), some (.int (nI a)), some (.int (nI (if (decide (w / 2 ^ a % 2 = 1) && !(exA (inkR r l) w b (amtN (inkR r l) a))) = true then 1 else 0))), some (.int (nI b))] [] sw 0 0 := by
    intro n
    induction n with
    | zero =>
      intro b a w2 hb ha kk
      refine t_X8_unlike_23 (t_X8_unlike_25 (t_X8_unlike_27N (by omega) (by omega) (fun h => ?_) (fun h => absurd h (by omega))))
      have e : b = a := by omega
      subst e
      exact kk _
    | succ n ih =>
      intro b a w2 hb ha kk
      have go := ih (b + 1) a w2 (by omega) ha kk
      have hs : exA (inkR r l) w (b + 1) (amtN (inkR r l) a) = (exA (inkR r l) w b (amtN (inkR r l) a) || (decide (w / 2 ^ b % 2 = 1) && decide (amtN (inkR r l) a = amtN (inkR r l) b))) := rfl
      rw [hs] at go
      refine t_X8_unlike_23 (t_X8_unlike_25 (t_X8_unlike_27N (by omega) (by omega) (fun h => absurd h (by omega)) (fun h => ?_)))
      by_cases hu : (decide (w / 2 ^ a % 2 = 1) && !(exA (inkR r l) w b (amtN (inkR r l) a))) = true
      · rw [if_pos hu]
        rw [Bool.and_eq_true, Bool.not_eq_true'] at hu
        rw [hu.1, hu.2, Bool.true_and, Bool.false_or] at go
        refine t_X8_unlike_30 (t_X8_unlike_32 (fun h => absurd h (by decide)) (fun _ => ?_))
        refine t_X8_unlike_35 (t_X8_unlike_36 (t_X8_unlike_38 (Nat.le_of_ble_eq_true rfl) (sp_X8_has w b (by omega) (by omega) ?_)))
        by_cases hwb : w / 2 ^ b % 2 = 1
        · rw [hwb]
          rw [decide_eq_true hwb, Bool.true_and] at go
          have w1 := woN_at (inkR r l) (j := a) (by omega)
          have w2 := woN_at (inkR r l) (j := b) (by omega)
          have w3 := woN_le (inkR r l) (nI a)
          have w4 := woN_le (inkR r l) (nI b)
          refine t_X8_unlike_41 (fun h => absurd h (by decide)) (fun _ => ?_)
          refine t_X8_unlike_44 (t_X8_unlike_45 (t_X8_unlike_46 (t_X8_unlike_48 h8 (Nat.le_of_ble_eq_true rfl) (sp_X8_without l (nI a) hm hr hl ?_))))
          refine t_X8_unlike_51 (t_X8_unlike_52 (t_X8_unlike_53 (t_X8_unlike_55 h8 (Nat.le_of_ble_eq_true rfl) (sp_X8_without l (nI b) hm hr hl ?_))))
          refine t_X8_unlike_58N (by omega) (by omega) (fun g => ?_) (fun g => ?_)
          · refine t_X8_unlike_65 (t_X8_unlike_66 (t_X8_unlike_68N (t_X8_unlike_71 (?_))))
            rw [decide_eq_true (show amtN (inkR r l) a = amtN (inkR r l) b by omega), if_neg (by decide)] at go
            exact go
          · refine t_X8_unlike_61 (t_X8_unlike_62 (t_X8_unlike_66 (t_X8_unlike_68N (t_X8_unlike_71 (?_)))))
            rw [decide_eq_false (show ¬ amtN (inkR r l) a = amtN (inkR r l) b by omega), if_pos (by decide)] at go
            exact go
        · rw [show w / 2 ^ b % 2 = 0 by omega]
          rw [decide_eq_false hwb, Bool.false_and, if_pos (by decide)] at go
          refine t_X8_unlike_41 (fun _ => ?_) (fun h => absurd rfl h)
          refine t_X8_unlike_61 (t_X8_unlike_62 (t_X8_unlike_66 (t_X8_unlike_68N (t_X8_unlike_71 (?_)))))
          exact go
      · rw [if_neg hu]
        rw [if_neg (fun z => hu (by
          rw [Bool.and_eq_true, Bool.not_eq_true', Bool.or_eq_false_iff] at z
          rw [Bool.and_eq_true, Bool.not_eq_true']
          exact ⟨z.1, z.2.1⟩))] at go
        refine t_X8_unlike_30 (t_X8_unlike_32 (fun _ => ?_) (fun h => absurd rfl h))
        refine t_X8_unlike_65 (t_X8_unlike_66 (t_X8_unlike_68N (t_X8_unlike_71 (?_))))
        exact go
  have outer : ∀ (n a : Nat) (a5 a6 : Option Value), a + n = 8 → gv_M ε (d + 3) m_X8_unlike sw.length Qs 5 [some (.ref 44), some (.int (nI l)), some (.int (nI w)), some (.int (nI (cntN (fsB (inkR r l) w) 0 a))), some (.int (nI a)), a5, a6] [] sw 0 0 := by
    intro n
    induction n with
    | zero =>
      intro a a5 a6 ha
      refine t_X8_unlike_5 (t_X8_unlike_7 (t_X8_unlike_9N (by omega) (by omega) (fun h => ?_) (fun h => absurd h (by omega))))
      refine t_X8_unlike_93 (t_X8_unlike_94 ?_)
      rw [show a = 8 by omega]
      exact hq
    | succ n ih =>
      intro a a5 a6 ha
      have go := fun a5 a6 => ih (a + 1) a5 a6 (by omega)
      unfold cntN at go
      rw [Nat.zero_add] at go
      refine t_X8_unlike_5 (t_X8_unlike_7 (t_X8_unlike_9N (by omega) (by omega) (fun h => absurd h (by omega)) (fun h => ?_)))
      refine t_X8_unlike_12 (t_X8_unlike_13 (t_X8_unlike_15 (Nat.le_of_ble_eq_true rfl) (sp_X8_has w a (by omega) (by omega) ?_)))
      have e0 : w / 2 ^ a % 2 = if (decide (w / 2 ^ a % 2 = 1) && !(exA (inkR r l) w 0 (amtN (inkR r l) a))) = true then 1 else 0 := by
        have : exA (inkR r l) w 0 (amtN (inkR r l) a) = false := rfl
        rw [this]
        by_cases z : w / 2 ^ a % 2 = 1
        · simp [z]
        · simp [z]
          omega
      rw [e0]
      refine t_X8_unlike_18 (t_X8_unlike_20 (t_X8_unlike_21 (?_)))
      refine inner a 0 a _ (by omega) (by omega) (fun a6 => ?_)
      by_cases hu : fsB (inkR r l) w a = true
      · rw [if_pos hu]
        refine t_X8_unlike_74 (t_X8_unlike_75 (t_X8_unlike_77 (fun h => absurd h (by decide)) (fun _ => ?_)))
        refine t_X8_unlike_80 (t_X8_unlike_81 (t_X8_unlike_85N (t_X8_unlike_86 (t_X8_unlike_87N (t_X8_unlike_90 (?_))))))
        have := go (some (.int (nI 1))) a6
        rw [if_pos hu] at this
        exact this
      · rw [if_neg hu]
        refine t_X8_unlike_74 (t_X8_unlike_75 (t_X8_unlike_77 (fun _ => ?_) (fun h => absurd rfl h)))
        refine t_X8_unlike_84 (t_X8_unlike_85N (t_X8_unlike_86 (t_X8_unlike_87N (t_X8_unlike_90 (?_)))))
        have := go (some (.int (nI 0))) a6
        rw [if_neg hu] at this
        exact this
  refine gv_S.go rfl ?_
  refine t_X8_unlike_0 (t_X8_unlike_1 (t_X8_unlike_2 (t_X8_unlike_3 (?_))))
  exact outer 8 0 _ _ (by decide)
theorem sp_X8_ask {kn : Nat} (hm : wt 44 (moF v ch A lz hz) sw) (hr : roOk (A 0)) (hv : v 8 = nI kn) (hS : siOk kn (A 6) (A 7)) (h0 : popN (unV (inkR (A 0)) (A 0 21) (A 6) (A 7) kn) < 2 → Qs (some (.int (-9))) sw) (h1 : ¬ popN (unV (inkR (A 0)) (A 0 21) (A 6) (A 7) kn) < 2 → ∀ m a, fMax (fun l => unlN (inkR (A 0) l) (unV (inkR (A 0)) (A 0 21) (A 6) (A 7) kn)) (A 0 21) m a → Qs (some (.int (if m = 0 then -9 else nI a))) sw) : gv_S ε (d + 4) m_X8_ask [.ref 44] sw Qs := by
  have h8 : sw[44]? = some (.inr (8, moO v ch)) := hm.at 0 rfl
  have hqm := moF.qm hm
  have hN : sw[45]? = some (.inl (0, 58, .inl (fun i => nI (A 0 i)))) := hm.at 1 rfl
  have hn := hr.2.2.2.2.1
  refine gv_S.go rfl ?_
  refine t_X8_ask_0 (t_X8_ask_1 h8 (Nat.le_of_ble_eq_true rfl) (sp_X8_unseenSet hm hr hv hS ?_))
  have hw := unV_lt (inkR (A 0)) (A 0 21) (A 6) (A 7) kn
  generalize unV (inkR (A 0)) (A 0 21) (A 6) (A 7) kn = w at h0 h1 hw ⊢
  have h2 := two_ok w hw
  by_cases hp : popN w < 2
  · refine t_X8_ask_4 (t_X8_ask_5 (t_X8_ask_7 (t_X8_ask_8 (t_X8_ask_9 (t_X8_ask_10 (t_X8_ask_11 (t_X8_ask_13 (t_X8_ask_14 (t_X8_ask_15 (t_X8_ask_16 (t_X8_ask_17 (t_X8_ask_18 (fun _ => ?_) (fun h => absurd (h2.mpr hp) h)))))))))))))
    refine t_X8_ask_74 (t_X8_ask_75 ?_)
    exact h0 hp
  · have loop : ∀ (n l m a : Nat) (a5 : Option Value), l + n = A 0 21 → m ≤ 8 → fMax (fun l => unlN (inkR (A 0) l) w) l m a → gv_M ε (d + 4) m_X8_ask sw.length Qs 13 [some (.ref 44), some (.int (nI w)), some (.int (if m = 0 then -9 else nI a)), some (.int (nI m)), some (.int (nI l)), a5] [] sw 0 0 := by
      intro n
      induction n with
      | zero =>
        intro l m a a5 hl hm hf
        refine t_X8_ask_13 (t_X8_ask_14 (t_X8_ask_15 (t_X8_ask_16 (t_X8_ask_17 (t_X8_ask_18 (fun h => absurd (h2.mp h) hp) (fun _ => ?_))))))
        refine t_X8_ask_21 (t_X8_ask_23 (t_X8_ask_24 h8 rfl (t_X8_ask_27 (t_X8_ask_29 hN 21 (by decide) rfl (by decide) (t_X8_ask_30N (by omega) (by omega) (fun h => ?_) (fun h => absurd h (by omega)))))))
        refine t_X8_ask_74 (t_X8_ask_75 ?_)
        have e : l = A 0 21 := by omega
        subst e
        exact h1 hp m a hf
      | succ n ih =>
        intro l m a a5 hl hm hf
        have hu := unlN_le (inkR (A 0) l) w
        refine t_X8_ask_13 (t_X8_ask_14 (t_X8_ask_15 (t_X8_ask_16 (t_X8_ask_17 (t_X8_ask_18 (fun h => absurd (h2.mp h) hp) (fun _ => ?_))))))
        refine t_X8_ask_21 (t_X8_ask_23 (t_X8_ask_24 h8 rfl (t_X8_ask_27 (t_X8_ask_29 hN 21 (by decide) rfl (by decide) (t_X8_ask_30N (by omega) (by omega) (fun h => absurd h (by omega)) (fun h => ?_))))))
        refine t_X8_ask_33 (t_X8_ask_34 (t_X8_ask_36 (t_X8_ask_37 h8 (Nat.le_of_ble_eq_true rfl) (sp_X8_unlike l w hqm hr (by omega) hw ?_))))
        refine t_X8_ask_40 (t_X8_ask_42 (t_X8_ask_44 (t_X8_ask_45N (by omega) (by omega) (fun g => ?_) (fun g => ?_))))
        · refine t_X8_ask_53 (t_X8_ask_54 (t_X8_ask_55 (t_X8_ask_57 (t_X8_ask_58N (by omega) (by omega) (fun g' => ?_) (fun g' => absurd g (by omega))))))
          refine t_X8_ask_66 (t_X8_ask_67 (t_X8_ask_68N (t_X8_ask_71 (?_))))
          exact ih (l + 1) m a _ (by omega) hm (fMax_no hf g)
        · refine t_X8_ask_48 (t_X8_ask_50 (t_X8_ask_54 (t_X8_ask_55 (t_X8_ask_57 (t_X8_ask_58N (by omega) (by omega) (fun g' => absurd g (by omega)) (fun g' => ?_))))))
          refine t_X8_ask_61 (t_X8_ask_63 (t_X8_ask_67 (t_X8_ask_68N (t_X8_ask_71 (?_)))))
          have := ih (l + 1) (unlN (inkR (A 0) l) w) l (some (.int (nI (unlN (inkR (A 0) l) w)))) (by omega) hu (fMax_up hf g)
          rw [if_neg (by omega)] at this
          exact this
    refine t_X8_ask_4 (t_X8_ask_5 (t_X8_ask_7 (t_X8_ask_8 (t_X8_ask_9 (t_X8_ask_10 (t_X8_ask_11 (?_)))))))
    exact loop (A 0 21) 0 0 0 _ (by omega) (by omega) ⟨fun q hq => absurd hq (by omega), Or.inl rfl⟩
end S8
