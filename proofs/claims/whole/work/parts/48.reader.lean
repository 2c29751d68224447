/-! the class's reader: tokens -/
def kdP (k v : Int32) (c : Nat) : Prop := (c < 256 ∧ k = nI c) ∨ (c = 3000 ∧ k = -1) ∨ (c = 2000 ∧ k = -3) ∨ (1000 ≤ c ∧ c < 2000 ∧ k = -2 ∧ v = nI (c - 1000))
def txOk (T : Nat → Nat) (n : Nat) : Prop := n ≤ 120 ∧ ∀ i, i < n → T i ≤ 255
def x4 (a b c e : Int32) : Nat → Int32 := fun i => match i with
  | 0 => a
  | 1 => b
  | 2 => c
  | _ => e
section S3
variable {ε : gv_E} {d : Nat} {Qs : Option Value → List va_E → Prop} {sw : List va_E} {T : Nat → Nat} {n : Nat} {x : Nat → Int32}
theorem sp_X3_isDigit (c : Nat) (hc : c ≤ 255) (hq : Qs (some (.int (nI (if dig c then 1 else 0)))) sw) : gv_S ε d m_X3_isDigit [.int (nI c)] sw Qs := by
  refine gv_S.go rfl ?_
  refine t_X3_isDigit_0 (t_X3_isDigit_1 (t_X3_isDigit_3N (by omega) (by omega) (fun h => ?_) (fun h => ?_)))
  · refine t_X3_isDigit_16 (t_X3_isDigit_17 rfl ?_)
    rw [if_neg (fun z => by omega)] at hq
    exact hq
  · refine t_X3_isDigit_6 (t_X3_isDigit_7 (t_X3_isDigit_9N (by omega) (by omega) (fun g => ?_) (fun g => ?_)))
    · refine t_X3_isDigit_16 (t_X3_isDigit_17 rfl ?_)
      rw [if_neg (fun z => by omega)] at hq
      exact hq
    · refine t_X3_isDigit_12 (t_X3_isDigit_13 (t_X3_isDigit_17 rfl ?_))
      rw [if_pos ⟨h, g⟩] at hq
      exact hq
theorem sp_X3_letterOf (k v : Int32) (c : Nat) (hk : kdP k v c) (h1 : 97 ≤ c → c ≤ 102 → Qs (some (.int (nI (c - 97)))) sw) (h0 : ¬ (97 ≤ c ∧ c ≤ 102) → Qs (some (.int (-9))) sw) : gv_S ε d m_X3_letterOf [.int k] sw Qs := by
  refine gv_S.go rfl ?_
  rcases hk with ⟨hc, e⟩ | ⟨hc, e⟩ | ⟨hc, e⟩ | ⟨hc, hc2, e, e2⟩
  · subst e
    refine t_X3_letterOf_0 (t_X3_letterOf_1 (t_X3_letterOf_3N (by omega) (by omega) (fun h => ?_) (fun h => ?_)))
    · refine t_X3_letterOf_19 (t_X3_letterOf_21 ?_)
      exact h0 (fun z => by omega)
    · refine t_X3_letterOf_6 (t_X3_letterOf_7 (t_X3_letterOf_9N (by omega) (by omega) (fun g => ?_) (fun g => ?_)))
      · refine t_X3_letterOf_19 (t_X3_letterOf_21 ?_)
        exact h0 (fun z => by omega)
      · refine t_X3_letterOf_12 (t_X3_letterOf_13 (t_X3_letterOf_15N (by omega) (t_X3_letterOf_16 (t_X3_letterOf_21 ?_))))
        exact h1 h g
  · subst e
    refine t_X3_letterOf_0 (t_X3_letterOf_1 (t_X3_letterOf_3 (fun h => ?_) (fun h => absurd (by decide) h)))
    refine t_X3_letterOf_19 (t_X3_letterOf_21 ?_)
    exact h0 (fun z => by omega)
  · subst e
    refine t_X3_letterOf_0 (t_X3_letterOf_1 (t_X3_letterOf_3 (fun h => ?_) (fun h => absurd (by decide) h)))
    refine t_X3_letterOf_19 (t_X3_letterOf_21 ?_)
    exact h0 (fun z => by omega)
  · subst e
    refine t_X3_letterOf_0 (t_X3_letterOf_1 (t_X3_letterOf_3 (fun h => ?_) (fun h => absurd (by decide) h)))
    refine t_X3_letterOf_19 (t_X3_letterOf_21 ?_)
    exact h0 (fun z => by omega)
theorem sp_X3_advanceOverNumber (q : Nat) (hw : wt 1 (reF T n x) sw) (hT : txOk T n) (hx0 : x 0 = nI q) (hx1 : x 1 = nI q) (hq : q < n) (hd : dig (T q)) (h1 : ∀ k v sw', kdP k v (nuC T n q) → wt 1 (reF T n (x4 (nI (q + dc T n q)) (nI q) k v)) sw' → same 1 2 sw sw' → Qs none sw') : gv_S ε (d + 1) m_X3_advanceOverNumber [.ref 1] sw Qs := by
  obtain ⟨hn, hT⟩ := hT
  obtain ⟨hdc, hdd⟩ := dc_ok (T := T) (n := n) (q := q) (by omega)
  have done : ∀ (z : Nat) (k0 : Int32) (a2 : Option Value) (sw1 : List va_E), z = (if T q = 48 then 1 else 0) → wt 1 (reF T n (x4 (nI (q + dc T n q)) (nI q) k0 (nI (vc T q (dc T n q))))) sw1 → same 1 2 sw sw1 → gv_M ε (d + 1) m_X3_advanceOverNumber sw.length Qs 98 [some (.ref 1), some (.int (nI z)), a2] [] sw1 0 0 := by
    intro z k0 a2 sw1 hz w1 m1
    have hvl := vc_lt (dc T n q) hdd
    have hbd := nuC_bd (T := T) (n := n) (q := q) (by omega)
    have hiff := vc_wrg (T := T) (n := n) (q := q) (by omega)
    have h3 : sw1[1]? = some (.inr (3, [.ref 2, .int (nI n), .int (nI (q + dc T n q)), .int (nI q), .int k0, .int (nI (vc T q (dc T n q)))])) := w1.at 0 rfl
    have bad : wrg T n q → gv_M ε (d + 1) m_X3_advanceOverNumber sw.length Qs 125 [some (.ref 1), some (.int (nI z)), a2] [] sw1 0 0 := by
      intro hw
      refine t_X3_advanceOverNumber_125 (t_X3_advanceOverNumber_126 (t_X3_advanceOverNumber_130 (t_X3_advanceOverNumber_131 (t_X3_advanceOverNumber_132 (t_X3_advanceOverNumber_133 (fun h => absurd h (by decide)) (fun _ => ?_))))))
      refine t_X3_advanceOverNumber_136 (t_X3_advanceOverNumber_138 (t_X3_advanceOverNumber_143 h3 rfl (t_X3_advanceOverNumber_146 (Nat.le_refl _) ?_)))
      exact h1 (-3) (nI (vc T q (dc T n q))) _ (Or.inr (Or.inr (Or.inl ⟨hbd.2.2.mp hw, rfl⟩))) (w1.set 0 _ rfl) (m1.tr (same.set 1 _ rfl))
    have good : ¬ wrg T n q → gv_M ε (d + 1) m_X3_advanceOverNumber sw.length Qs 129 [some (.ref 1), some (.int (nI z)), a2] [] sw1 0 0 := by
      intro hw
      have hlt : nuC T n q < 2000 := by
        have : nuC T n q ≠ 2000 := fun e => hw (hbd.2.2.mpr e)
        omega
      have hk3 : dc T n q ≤ 3 := by
        have hw : ¬ (3 < dc T n q ∨ (T q = 48 ∧ 1 < dc T n q)) := hw
        omega
      have ev : vc T q (dc T n q) = nuC T n q - 1000 := by
        unfold nuC
        rw [if_neg hw, vc_nv _ hk3 hdd]
        omega
      refine t_X3_advanceOverNumber_129 (t_X3_advanceOverNumber_130 (t_X3_advanceOverNumber_131 (t_X3_advanceOverNumber_132 (t_X3_advanceOverNumber_133 (fun _ => ?_) (fun h => absurd rfl h)))))
      refine t_X3_advanceOverNumber_141 (t_X3_advanceOverNumber_143 h3 rfl (t_X3_advanceOverNumber_146 (Nat.le_refl _) ?_))
      exact h1 (-2) (nI (vc T q (dc T n q))) _ (Or.inr (Or.inr (Or.inr ⟨hbd.1, hlt, rfl, by rw [ev]⟩))) (w1.set 0 _ rfl) (m1.tr (same.set 1 _ rfl))
    refine t_X3_advanceOverNumber_98 (t_X3_advanceOverNumber_99 h3 rfl (t_X3_advanceOverNumber_102 (t_X3_advanceOverNumber_105N (by omega) (by omega) (fun h => ?_) (fun h => ?_))))
    · exact bad (hiff.mp (Or.inl h))
    · by_cases hz0 : T q = 48
      · rw [if_pos hz0] at hz
        subst hz
        refine t_X3_advanceOverNumber_108 (t_X3_advanceOverNumber_109 (fun h => absurd h (by decide)) (fun _ => ?_))
        refine t_X3_advanceOverNumber_112 (t_X3_advanceOverNumber_113 h3 rfl (t_X3_advanceOverNumber_116 (t_X3_advanceOverNumber_117 h3 rfl (t_X3_advanceOverNumber_120N (by omega) (t_X3_advanceOverNumber_121 (t_X3_advanceOverNumber_122N (by omega) (by omega) (fun g => ?_) (fun g => ?_)))))))
        · refine good (fun y => ?_)
          rcases hiff.mpr y with a | a <;> omega
        · exact bad (hiff.mp (Or.inr ⟨hz0, by omega⟩))
      · rw [if_neg hz0] at hz
        subst hz
        refine t_X3_advanceOverNumber_108 (t_X3_advanceOverNumber_109 (fun _ => ?_) (fun h => absurd rfl h))
        refine good (fun y => ?_)
        rcases hiff.mpr y with a | a
        · omega
        · exact hz0 a.1
  have loop : ∀ (m j z : Nat) (k0 : Int32) (sw1 : List va_E), j + m = dc T n q → z = (if T q = 48 then 1 else 0) → dc T n q = j + dc T n (q + j) → wt 1 (reF T n (x4 (nI (q + j)) (nI q) k0 (nI (vc T q j)))) sw1 → same 1 2 sw sw1 → gv_M ε (d + 1) m_X3_advanceOverNumber sw.length Qs 25 [some (.ref 1), some (.int (nI z)), none] [] sw1 0 0 := by
    intro m
    induction m with
    | zero =>
      intro j z k0 sw1 hj hz hdj w1 m1
      have h3 : sw1[1]? = some (.inr (3, [.ref 2, .int (nI n), .int (nI (q + j)), .int (nI q), .int k0, .int (nI (vc T q j))])) := w1.at 0 rfl
      have hA : sw1[2]? = some (.inl (0, 120, .inl (fun i => nI (T i)))) := w1.at 1 rfl
      have ej : j = dc T n q := by omega
      refine t_X3_advanceOverNumber_25 (t_X3_advanceOverNumber_26 h3 rfl (t_X3_advanceOverNumber_29 (t_X3_advanceOverNumber_30 h3 rfl (t_X3_advanceOverNumber_33N (by omega) (by omega) (fun h => ?_) (fun h => ?_)))))
      · rw [ej] at w1
        exact done z k0 _ sw1 hz w1 m1
      · have := hT (q + j) h
        refine t_X3_advanceOverNumber_36 (t_X3_advanceOverNumber_37 h3 rfl (t_X3_advanceOverNumber_40 (t_X3_advanceOverNumber_41 h3 rfl (t_X3_advanceOverNumber_44 hA (q + j) (by omega) rfl (by decide) (t_X3_advanceOverNumber_45 (Nat.le_of_ble_eq_true rfl) (sp_X3_isDigit (T (q + j)) this ?_))))))
        rw [if_neg (fun y => by
          have := dc_yes h y
          omega)]
        refine t_X3_advanceOverNumber_48 (fun _ => ?_) (fun h => absurd rfl h)
        rw [ej] at w1
        exact done z k0 _ sw1 hz w1 m1
    | succ m ih =>
      intro j z k0 sw1 hj hz hdj w1 m1
      have h3 : sw1[1]? = some (.inr (3, [.ref 2, .int (nI n), .int (nI (q + j)), .int (nI q), .int k0, .int (nI (vc T q j))])) := w1.at 0 rfl
      have hA : sw1[2]? = some (.inl (0, 120, .inl (fun i => nI (T i)))) := w1.at 1 rfl
      have hdg := hdd j (by omega)
      have hlt : q + j < n := by omega
      have h255 := hT (q + j) hlt
      have hvl := vc_lt j (fun i hi => hdd i (by omega))
      have hstep : dc T n q = (j + 1) + dc T n (q + (j + 1)) := by
        have := dc_yes hlt hdg
        rw [← Nat.add_assoc q j 1]
        omega
      have hvs := vc_s T q j
      refine t_X3_advanceOverNumber_25 (t_X3_advanceOverNumber_26 h3 rfl (t_X3_advanceOverNumber_29 (t_X3_advanceOverNumber_30 h3 rfl (t_X3_advanceOverNumber_33N (by omega) (by omega) (fun h => absurd h (by omega)) (fun h => ?_)))))
      refine t_X3_advanceOverNumber_36 (t_X3_advanceOverNumber_37 h3 rfl (t_X3_advanceOverNumber_40 (t_X3_advanceOverNumber_41 h3 rfl (t_X3_advanceOverNumber_44 hA (q + j) (by omega) rfl (by decide) (t_X3_advanceOverNumber_45 (Nat.le_of_ble_eq_true rfl) (sp_X3_isDigit (T (q + j)) h255 ?_))))))
      rw [if_pos hdg]
      refine t_X3_advanceOverNumber_48 (fun h => absurd h (by decide)) (fun _ => ?_)
      refine t_X3_advanceOverNumber_51 (t_X3_advanceOverNumber_52 h3 rfl (t_X3_advanceOverNumber_55 (t_X3_advanceOverNumber_58N (by omega) (by omega) (fun g => ?_) (fun g => ?_))))
      · rw [if_neg (by omega)] at hvs
        refine t_X3_advanceOverNumber_85 (t_X3_advanceOverNumber_86 rfl (t_X3_advanceOverNumber_87 h3 rfl (t_X3_advanceOverNumber_90 (t_X3_advanceOverNumber_91N (t_X3_advanceOverNumber_92 h3 rfl (t_X3_advanceOverNumber_95 (?_)))))))
        refine ih (j + 1) z k0 _ (by omega) hz hstep ?_ (m1.tr (same.set 1 _ rfl))
        rw [hvs]
        exact w1.set 0 _ rfl
      · rw [if_pos g] at hvs
        refine t_X3_advanceOverNumber_61 (t_X3_advanceOverNumber_62 (t_X3_advanceOverNumber_63 h3 rfl (t_X3_advanceOverNumber_66 (t_X3_advanceOverNumber_68N (t_X3_advanceOverNumber_69 (t_X3_advanceOverNumber_70 h3 rfl (t_X3_advanceOverNumber_73 (t_X3_advanceOverNumber_74 h3 rfl (t_X3_advanceOverNumber_77 hA (q + j) (by omega) rfl (by decide) (t_X3_advanceOverNumber_78N (t_X3_advanceOverNumber_79 (t_X3_advanceOverNumber_81N (by omega) (t_X3_advanceOverNumber_82 h3 rfl (?_))))))))))))))
        rw [← hvs]
        have w2 : wt 1 (reF T n (x4 (nI (q + j)) (nI q) k0 (nI (vc T q (j + 1))))) _ := w1.set 0 (.inr (3, [.ref 2, .int (nI n), .int (nI (q + j)), .int (nI q), .int k0, .int (nI (vc T q (j + 1)))])) rfl
        have m2 : same 1 2 sw1 _ := same.set 1 (.inr (3, [.ref 2, .int (nI n), .int (nI (q + j)), .int (nI q), .int k0, .int (nI (vc T q (j + 1)))])) rfl
        show gv_M ε (d + 1) m_X3_advanceOverNumber sw.length Qs 85 _ _ (List.set sw1 (1 + 0) (.inr (3, [.ref 2, .int (nI n), .int (nI (q + j)), .int (nI q), .int k0, .int (nI (vc T q (j + 1)))]))) 0 0
        generalize List.set sw1 _ _ = sw2 at w2 m2 ⊢
        have h3 : sw2[1]? = some (.inr (3, [.ref 2, .int (nI n), .int (nI (q + j)), .int (nI q), .int k0, .int (nI (vc T q (j + 1)))])) := w2.at 0 rfl
        refine t_X3_advanceOverNumber_85 (t_X3_advanceOverNumber_86 rfl (t_X3_advanceOverNumber_87 h3 rfl (t_X3_advanceOverNumber_90 (t_X3_advanceOverNumber_91N (t_X3_advanceOverNumber_92 h3 rfl (t_X3_advanceOverNumber_95 (?_)))))))
        exact ih (j + 1) z k0 _ (by omega) hz hstep (w2.set 0 _ rfl) ((m1.tr m2).tr (same.set 1 _ rfl))
  have h3 : sw[1]? = some (.inr (3, [.ref 2, .int (nI n), .int (nI q), .int (nI q), .int (x 2), .int (x 3)])) := by
    rw [← hx0, show (Value.int (x 0)) = .int (x 0) from rfl]
    have := hw.at 0 (e := .inr (3, [.ref 2, .int (nI n), .int (x 0), .int (x 1), .int (x 2), .int (x 3)])) rfl
    rw [hx1, ← hx0] at this
    exact this
  have hA : sw[2]? = some (.inl (0, 120, .inl (fun i => nI (T i)))) := hw.at 1 rfl
  have w0 : wt 1 (reF T n (x4 (nI q) (nI q) (x 2) (x 3))) sw := by
    intro k e he
    have : reF T n (x4 (nI q) (nI q) (x 2) (x 3)) = reF T n x := by
      unfold reF
      rw [hx0, hx1]
      rfl
    rw [this] at he
    exact hw k e he
  have h255 := hT q hq
  have go : ∀ z, z = (if T q = 48 then 1 else 0) → gv_M ε (d + 1) m_X3_advanceOverNumber sw.length Qs 20 [some (.ref 1), some (.int (nI z)), none] [] sw 0 0 := by
    intro z hz
    refine t_X3_advanceOverNumber_20 (t_X3_advanceOverNumber_21 (t_X3_advanceOverNumber_22 h3 rfl (?_)))
    exact loop (dc T n q) 0 z (x 2) _ (by omega) hz (by rw [Nat.add_zero, Nat.zero_add]) (w0.set 0 _ rfl) (same.set 1 _ rfl)
  refine gv_S.go rfl ?_
  refine t_X3_advanceOverNumber_0 (t_X3_advanceOverNumber_1 h3 rfl (t_X3_advanceOverNumber_4 (t_X3_advanceOverNumber_5 h3 rfl (t_X3_advanceOverNumber_8 hA q (by omega) rfl (by decide) (t_X3_advanceOverNumber_9 (t_X3_advanceOverNumber_11N (by omega) (by omega) (fun h => ?_) (fun h => ?_)))))))
  · refine t_X3_advanceOverNumber_18 (t_X3_advanceOverNumber_19 (?_))
    exact go 0 (by rw [if_neg h])
  · refine t_X3_advanceOverNumber_14 (t_X3_advanceOverNumber_15 (t_X3_advanceOverNumber_19 (?_)))
    exact go 1 (by rw [if_pos h])
theorem sp_X3_advance (p : Nat) (hw : wt 1 (reF T n x) sw) (hT : txOk T n) (hx0 : x 0 = nI p) (hp : p ≤ n) (h1 : ∀ k v sw', kdP k v (tkC T n p) → wt 1 (reF T n (x4 (nI (tkN T n p)) (nI (bl T n p)) k v)) sw' → same 1 2 sw sw' → Qs none sw') : gv_S ε (d + 2) m_X3_advance [.ref 1] sw Qs := by
  obtain ⟨hb1, hb2, hb3⟩ := bl_ok (T := T) hp
  have hn := hT.1
  have done : ∀ (q : Nat) (b k v : Int32) (sw1 : List va_E), bl T n p = q → wt 1 (reF T n (x4 (nI q) b k v)) sw1 → same 1 2 sw sw1 → gv_M ε (d + 2) m_X3_advance sw.length Qs 38 [some (.ref 1)] [] sw1 0 0 := by
    intro q b k v sw1 hq w1 m1
    have h3 : sw1[1]? = some (.inr (3, [.ref 2, .int (nI n), .int (nI q), .int b, .int k, .int v])) := w1.at 0 rfl
    refine t_X3_advance_38 (t_X3_advance_39 (t_X3_advance_40 h3 rfl (t_X3_advance_43 h3 rfl (?_))))
    have w2 : wt 1 (reF T n (x4 (nI q) (nI q) k v)) _ := w1.set 0 (.inr (3, [.ref 2, .int (nI n), .int (nI q), .int (nI q), .int k, .int v])) rfl
    have m2 : same 1 2 sw1 _ := same.set 1 (.inr (3, [.ref 2, .int (nI n), .int (nI q), .int (nI q), .int k, .int v])) rfl
    show gv_M ε (d + 2) m_X3_advance sw.length Qs 46 _ _ (List.set sw1 (1 + 0) (.inr (3, [.ref 2, .int (nI n), .int (nI q), .int (nI q), .int k, .int v]))) 0 0
    generalize List.set sw1 _ _ = sw2 at w2 m2 ⊢
    have h3 : sw2[1]? = some (.inr (3, [.ref 2, .int (nI n), .int (nI q), .int (nI q), .int k, .int v])) := w2.at 0 rfl
    have hA : sw2[2]? = some (.inl (0, 120, .inl (fun i => nI (T i)))) := w2.at 1 rfl
    subst hq
    refine t_X3_advance_46 (t_X3_advance_47 h3 rfl (t_X3_advance_50 (t_X3_advance_51 h3 rfl (t_X3_advance_54N (by omega) (by omega) (fun h => ?_) (fun h => ?_)))))
    · have h255 := hT.2 _ h
      refine t_X3_advance_65 (t_X3_advance_66 h3 rfl (t_X3_advance_69 (t_X3_advance_70 h3 rfl (t_X3_advance_73 hA (bl T n p) (by omega) rfl (by decide) (t_X3_advance_74 (Nat.le_of_ble_eq_true rfl) (sp_X3_isDigit (T (bl T n p)) h255 ?_))))))
      by_cases hd : dig (T (bl T n p))
      · rw [(tk_num h hd).1, (tk_num h hd).2] at h1
        rw [if_pos hd]
        refine t_X3_advance_77 (fun h => absurd h (by decide)) (fun _ => ?_)
        refine t_X3_advance_80 (t_X3_advance_81 h3 (Nat.le_of_ble_eq_true rfl) (sp_X3_advanceOverNumber (bl T n p) w2 hT rfl rfl h hd (fun k v sw3 g1 g2 g3 => ?_)))
        refine t_X3_advance_84 (t_X3_advance_110 (Nat.le_refl _) ?_)
        exact h1 k v sw3 g1 g2 ((m1.tr m2).tr g3)
      · rw [(tk_let h hd).1, (tk_let h hd).2] at h1
        rw [if_neg hd]
        refine t_X3_advance_77 (fun _ => ?_) (fun h => absurd rfl h)
        refine t_X3_advance_87 (t_X3_advance_88 (t_X3_advance_89 h3 rfl (t_X3_advance_92 (t_X3_advance_93 h3 rfl (t_X3_advance_96 hA (bl T n p) (by omega) rfl (by decide) (t_X3_advance_97 h3 rfl (?_)))))))
        have w3 : wt 1 (reF T n (x4 (nI (bl T n p)) (nI (bl T n p)) (nI (T (bl T n p))) v)) _ := w2.set 0 (.inr (3, [.ref 2, .int (nI n), .int (nI (bl T n p)), .int (nI (bl T n p)), .int (nI (T (bl T n p))), .int v])) rfl
        have m3 : same 1 2 sw2 _ := same.set 1 (.inr (3, [.ref 2, .int (nI n), .int (nI (bl T n p)), .int (nI (bl T n p)), .int (nI (T (bl T n p))), .int v])) rfl
        show gv_M ε (d + 2) m_X3_advance sw.length Qs 100 _ _ (List.set sw2 (1 + 0) (.inr (3, [.ref 2, .int (nI n), .int (nI (bl T n p)), .int (nI (bl T n p)), .int (nI (T (bl T n p))), .int v]))) 0 0
        generalize List.set sw2 _ _ = sw3 at w3 m3 ⊢
        have h3 : sw3[1]? = some (.inr (3, [.ref 2, .int (nI n), .int (nI (bl T n p)), .int (nI (bl T n p)), .int (nI (T (bl T n p))), .int v])) := w3.at 0 rfl
        refine t_X3_advance_100 (t_X3_advance_101 rfl (t_X3_advance_102 h3 rfl (t_X3_advance_105 (t_X3_advance_106N (t_X3_advance_107 h3 rfl (t_X3_advance_110 (Nat.le_refl _) ?_))))))
        exact h1 (nI (T (bl T n p))) v _ (Or.inl ⟨by omega, rfl⟩) (w3.set 0 _ rfl) (((m1.tr m2).tr m3).tr (same.set 1 _ rfl))
    · rw [(tk_fin h).1, (tk_fin h).2] at h1
      refine t_X3_advance_57 (t_X3_advance_58 (t_X3_advance_59 h3 rfl (t_X3_advance_62 (t_X3_advance_110 (Nat.le_refl _) ?_))))
      exact h1 (-1) v _ (Or.inr (Or.inl ⟨rfl, rfl⟩)) (w2.set 0 _ rfl) ((m1.tr m2).tr (same.set 1 _ rfl))
  have loop : ∀ (m q : Nat) (b k v : Int32) (sw1 : List va_E), q + m = n → bl T n p = bl T n q → wt 1 (reF T n (x4 (nI q) b k v)) sw1 → same 1 2 sw sw1 → gv_M ε (d + 2) m_X3_advance sw.length Qs 0 [some (.ref 1)] [] sw1 0 0 := by
    intro m
    induction m with
    | zero =>
      intro q b k v sw1 hq e w1 m1
      have h3 : sw1[1]? = some (.inr (3, [.ref 2, .int (nI n), .int (nI q), .int b, .int k, .int v])) := w1.at 0 rfl
      refine t_X3_advance_0 (t_X3_advance_1 h3 rfl (t_X3_advance_4 (t_X3_advance_5 h3 rfl (t_X3_advance_8N (by omega) (by omega) (fun h => ?_) (fun h => absurd h (by omega))))))
      exact done q b k v sw1 (e.trans (bl_end h)) w1 m1
    | succ m ih =>
      intro q b k v sw1 hq e w1 m1
      have h3 : sw1[1]? = some (.inr (3, [.ref 2, .int (nI n), .int (nI q), .int b, .int k, .int v])) := w1.at 0 rfl
      have hA : sw1[2]? = some (.inl (0, 120, .inl (fun i => nI (T i)))) := w1.at 1 rfl
      have h255 := hT.2 q (by omega)
      refine t_X3_advance_0 (t_X3_advance_1 h3 rfl (t_X3_advance_4 (t_X3_advance_5 h3 rfl (t_X3_advance_8N (by omega) (by omega) (fun h => absurd h (by omega)) (fun h => ?_)))))
      refine t_X3_advance_11 (t_X3_advance_12 h3 rfl (t_X3_advance_15 (t_X3_advance_16 h3 rfl (t_X3_advance_19 hA q (by omega) rfl (by decide) (t_X3_advance_20 (t_X3_advance_22N (by omega) (by omega) (fun g => ?_) (fun g => ?_)))))))
      · exact done q b k v sw1 (e.trans (bl_no h g)) w1 m1
      · refine t_X3_advance_25 (t_X3_advance_26 rfl (t_X3_advance_27 h3 rfl (t_X3_advance_30 (t_X3_advance_31N (t_X3_advance_32 h3 rfl (t_X3_advance_35 (?_)))))))
        exact ih (q + 1) b k v _ (by omega) (e.trans (bl_yes h g)) (w1.set 0 _ rfl) (m1.tr (same.set 1 _ rfl))
  have w0 : wt 1 (reF T n (x4 (nI p) (x 1) (x 2) (x 3))) sw := by
    intro k e he
    have : reF T n (x4 (nI p) (x 1) (x 2) (x 3)) = reF T n x := by
      unfold reF
      rw [hx0]
      rfl
    rw [this] at he
    exact hw k e he
  refine gv_S.go rfl ?_
  exact loop (n - p) p (x 1) (x 2) (x 3) sw (by omega) rfl w0 same.rf
end S3
