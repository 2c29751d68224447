/-! the model reads: items -/
theorem tkC_le {T : Nat → Nat} {n p : Nat} (hp : p ≤ n) (hT : txOk T n) : tkC T n p = 3000 ∨ tkC T n p ≤ 2000 := by
  obtain ⟨h1, h2, h3⟩ := bl_ok (T := T) hp
  by_cases z : n ≤ bl T n p
  · exact Or.inl (tk_fin z).1
  · by_cases y : dig (T (bl T n p))
    · rw [(tk_num (by omega) y).1]
      have := nuC_bd (T := T) h2
      omega
    · rw [(tk_let (by omega) y).1]
      have := hT.2 (bl T n p) (by omega)
      omega
theorem tk_in {c a b : Nat} (hc : c = 3000 ∨ c ≤ 2000) (ha : a < 2000) (hb : b < 2500) : (nI a ≤ tkI c ∧ tkI c ≤ nI b) ↔ (a ≤ c ∧ c ≤ b) := by
  unfold tkI
  rcases hc with e | e
  · rw [if_pos e]
    constructor
    · rintro ⟨q, _⟩
      rw [Int32.le_iff_toInt_le, nI_toInt (by omega)] at q
      have : (-1 : Int32).toInt = -1 := by decide
      omega
    · intro q
      omega
  · rw [if_neg (by omega), nI_leI (by omega) (by omega), nI_leI (by omega) (by omega)]
theorem tk_eq {c m : Nat} (hc : c = 3000 ∨ c ≤ 2000) (hm : m < 256) : tkI c = nI m ↔ c = m := by
  unfold tkI
  rcases hc with e | e
  · rw [if_pos e]
    exact ⟨fun q => absurd q.symm (nI_neg m hm).1, fun q => by omega⟩
  · rw [if_neg (by omega)]
    exact ⟨fun q => nI_inj (by omega) (by omega) q, fun q => by rw [q]⟩
theorem tk_nI {c : Nat} (h : c ≤ 2000) : tkI c = nI c := if_neg (by omega)
def rdB (rd : Nat → Nat) : Prop := rd 21 ≤ 4 ∧ (∀ l, l < 4 → rd (22 + l) ≤ 8) ∧ ∀ l, rd 21 ≤ l → l < 4 → rd (22 + l) = 0
def mq (r U fk Kp T ln nu : Nat → Nat) (kn ua n sk : Nat) (Qs : Option Value → List va_E → Prop) (sw : List va_E) (X : PR) : Prop := ∀ (tk' : Int32) (sw' : List va_E), mrW r U fk Kp T X.2.2.2 ln nu kn ua n sk (nI X.2.2.1) (nI X.2.1) tk' sw' → same 44 11 sw sw' → Qs (some (.int (nI (if X.1 = true then 1 else 0)))) sw'
section S8
variable {ε : gv_E} {d : Nat} {Qs : Option Value → List va_E → Prop} {r U fk Kp T rd ln nu : Nat → Nat} {kn ua n sk : Nat} {pv ts tk : Int32} {sw : List va_E}
theorem sp_X8_number (a lo hi p : Nat) (hM : mrW r U fk Kp T rd ln nu kn ua n sk pv ts tk sw) (hpv : pv = nI p) (hT : txOk T n) (hp : p ≤ n) (ha : a < 58) (hlo : lo < 300) (hhi : hi < 300) (hq : mq r U fk Kp T ln nu kn ua n sk Qs sw (pNum T n lo hi a p rd)) : gv_S ε (d + 3) m_X8_number [.ref 44, .int (nI a), .int (nI lo), .int (nI hi)] sw Qs := by
  obtain ⟨afs, a8, al, a6, a7, a9, a10, a11, a12, aT, aD⟩ := hM.view
  have hc := tkC_le hp hT
  refine gv_S.go rfl ?_
  refine t_X8_number_0 (t_X8_number_1 a8 (Nat.le_of_ble_eq_true rfl) (sp_X8_next p hM hpv hT hp (fun sw1 hM1 m1 => ?_)))
  obtain ⟨yfs, y8, yl, y6, y7, y9, y10, y11, y12, yT, yD⟩ := hM1.view
  refine t_X8_number_4 (t_X8_number_5 y8 y11 (t_X8_number_8 (t_X8_number_11 (t_X8_number_12N (t_X8_number_13 (t_X8_number_16 (t_X8_number_17N (t_X8_number_18 (Nat.le_of_ble_eq_true rfl) (sp_X8_in _ _ _ (fun g1 g2 => ?_) (fun g => ?_))))))))))
  · have hok := (tk_in hc (by omega) (by omega)).mp ⟨g1, g2⟩
    have hX : (pNum T n lo hi a p rd).1 = true := decide_eq_true hok
    have hrd : (pNum T n lo hi a p rd).2.2.2 = up rd a (tkC T n p - 1000) := if_pos hok
    refine t_X8_number_21 (fun _ => ?_) (fun h => absurd h (by decide))
    refine t_X8_number_26 (t_X8_number_27 y8 y12 (t_X8_number_30 (t_X8_number_31 (t_X8_number_32 y8 y11 (?_)))))
    rw [tk_nI (by omega)]
    refine t_X8_number_35 (t_X8_number_38N (by omega) (t_X8_number_39 yD a ha rfl (by decide) (?_)))
    rw [nI_set]
    refine t_X8_number_40 (t_X8_number_41 rfl ?_)
    have := hq _ _ (by rw [hrd]; exact hM1.sD (up rd a (tkC T n p - 1000))) (m1.tr (same.set 50 _ rfl))
    rw [if_pos hX] at this
    exact this
  · have hno : ¬ (1000 + lo ≤ tkC T n p ∧ tkC T n p ≤ 1000 + hi) := fun z => g ((tk_in hc (by omega) (by omega)).mpr z)
    have hX : ¬ (pNum T n lo hi a p rd).1 = true := fun z => hno (of_decide_eq_true z)
    have hrd : (pNum T n lo hi a p rd).2.2.2 = rd := if_neg hno
    refine t_X8_number_21 (fun h => absurd rfl h) (fun _ => ?_)
    refine t_X8_number_24 (t_X8_number_25 rfl ?_)
    have := hq _ sw1 (by rw [hrd]; exact hM1) m1
    rw [if_neg hX] at this
    exact this
theorem sp_X8_stops (p : Nat) (hM : mrW r U fk Kp T rd ln nu kn ua n sk pv ts tk sw) (hpv : pv = nI p) (hT : txOk T n) (hp : p ≤ n) (hq : mq r U fk Kp T ln nu kn ua n sk Qs sw (pStop T n p rd)) : gv_S ε (d + 3) m_X8_stops [.ref 44] sw Qs := by
  obtain ⟨afs, a8, al, a6, a7, a9, a10, a11, a12, aT, aD⟩ := hM.view
  have hc := tkC_le hp hT
  refine gv_S.go rfl ?_
  refine t_X8_stops_0 (t_X8_stops_1 a8 (Nat.le_of_ble_eq_true rfl) (sp_X8_next p hM hpv hT hp (fun sw1 hM1 m1 => ?_)))
  obtain ⟨yfs, y8, yl, y6, y7, y9, y10, y11, y12, yT, yD⟩ := hM1.view
  have fin := hq _ sw1 hM1 m1
  refine t_X8_stops_4 (t_X8_stops_5 y8 y11 (t_X8_stops_8 (t_X8_stops_10 (fun h => ?_) (fun h => ?_))))
  · have hX : ¬ (pStop T n p rd).1 = true := fun z => h ((tk_eq hc (by decide)).mpr (of_decide_eq_true z))
    rw [if_neg hX] at fin
    refine t_X8_stops_17 (t_X8_stops_18 rfl ?_)
    exact fin
  · have hX : (pStop T n p rd).1 = true := decide_eq_true ((tk_eq hc (by decide)).mp h)
    rw [if_pos hX] at fin
    refine t_X8_stops_13 (t_X8_stops_14 (t_X8_stops_18 rfl ?_))
    exact fin
theorem sp_X8_readsLetter (p : Nat) (hM : mrW r U fk Kp T rd ln nu kn ua n sk pv ts tk sw) (hpv : pv = nI p) (hT : txOk T n) (hp : p ≤ n) (hq : mq r U fk Kp T ln nu kn ua n sk Qs sw (pShape T n p rd)) : gv_S ε (d + 4) m_X8_readsLetter [.ref 44] sw Qs := by
  obtain ⟨afs, a8, al, a6, a7, a9, a10, a11, a12, aT, aD⟩ := hM.view
  have hc := tkC_le hp hT
  have hN := (tkN_ok (T := T) hp).2.1
  unfold pShape at hq
  refine gv_S.go rfl ?_
  refine t_X8_readsLetter_0 (t_X8_readsLetter_1 a8 (Nat.le_of_ble_eq_true rfl) (sp_X8_next p hM hpv hT hp (fun sw1 hM1 m1 => ?_)))
  obtain ⟨yfs, y8, yl, y6, y7, y9, y10, y11, y12, yT, yD⟩ := hM1.view
  refine t_X8_readsLetter_4 (t_X8_readsLetter_5 y8 y11 (t_X8_readsLetter_8 (t_X8_readsLetter_10 (t_X8_readsLetter_12 (Nat.le_of_ble_eq_true rfl) (sp_X8_in _ _ _ (fun g1 g2 => ?_) (fun g => ?_))))))
  · obtain ⟨c1, c2⟩ := (tk_in hc (by decide) (by decide)).mp ⟨g1, g2⟩
    rw [if_pos ⟨c1, c2⟩] at hq
    refine t_X8_readsLetter_15 (fun _ => ?_) (fun h => absurd h (by decide))
    refine t_X8_readsLetter_20 (t_X8_readsLetter_21 (t_X8_readsLetter_22 (t_X8_readsLetter_23 y8 y11 (?_))))
    rw [tk_nI (by omega)]
    refine t_X8_readsLetter_26 (t_X8_readsLetter_28N (by omega) (t_X8_readsLetter_29N (t_X8_readsLetter_30N (?_))))
    have hat : 3 + 3 * (tkC T n p - 97) < 19 := by omega
    generalize 3 + 3 * (tkC T n p - 97) = at0 at hq hat ⊢
    generalize hP0 : pNum T n 0 255 at0 (tkN T n p) rd = X0 at hq
    have fail : ∀ (sw2 : List va_E), Qs (some (.int (nI 0))) sw2 → gv_M ε (d + 4) m_X8_readsLetter sw.length Qs 83 [some (.ref 44), some (.int (nI at0))] [] sw2 0 0 := by
      intro sw2 h
      refine t_X8_readsLetter_83 (t_X8_readsLetter_84 rfl ?_)
      exact h
    refine t_X8_readsLetter_31 (t_X8_readsLetter_32 (t_X8_readsLetter_33 (t_X8_readsLetter_34 (t_X8_readsLetter_35 (t_X8_readsLetter_38 y8 (Nat.le_of_ble_eq_true rfl) (sp_X8_number at0 0 255 (tkN T n p) hM1 rfl hT hN (by omega) (by decide) (by decide) (fun tk1 sw2 hM2 m2 => ?_)))))))
    rw [hP0] at hM2 ⊢
    have en : X0.2.2.1 = tkN T n (tkN T n p) := by rw [← hP0]; rfl
    by_cases z0 : X0.1 = true
    · rw [if_pos z0]
      rw [thn_t z0, en] at hq
      rw [en] at hM2
      have hN1 := (tkN_ok (T := T) hN).2.1
      generalize hP1 : pNum T n 0 255 (at0 + 1) (tkN T n (tkN T n p)) X0.2.2.2 = X1 at hq
      obtain ⟨vfs, v8, vl, v6, v7, v9, v10, v11, v12, vT, vD⟩ := hM2.view
      refine t_X8_readsLetter_41 (fun h => absurd h (by decide)) (fun _ => ?_)
      refine t_X8_readsLetter_44 (t_X8_readsLetter_45 (t_X8_readsLetter_46 (t_X8_readsLetter_47N (t_X8_readsLetter_48 (t_X8_readsLetter_49 (t_X8_readsLetter_52 v8 (Nat.le_of_ble_eq_true rfl) (sp_X8_number (at0 + 1) 0 255 _ hM2 rfl hT hN1 (by omega) (by decide) (by decide) (fun tk2 sw3 hM3 m3 => ?_))))))))
      rw [hP1] at hM3 ⊢
      have en1 : X1.2.2.1 = tkN T n (tkN T n (tkN T n p)) := by rw [← hP1]; rfl
      by_cases z1 : X1.1 = true
      · rw [if_pos z1]
        rw [thn_t z1, en1] at hq
        rw [en1] at hM3
        have hN2 := (tkN_ok (T := T) hN1).2.1
        generalize hP2 : pNum T n 0 255 (at0 + 2) (tkN T n (tkN T n (tkN T n p))) X1.2.2.2 = X2 at hq
        obtain ⟨ufs, u8, ul, u6, u7, u9, u10, u11, u12, uT, uD⟩ := hM3.view
        refine t_X8_readsLetter_55 (fun h => absurd h (by decide)) (fun _ => ?_)
        refine t_X8_readsLetter_58 (t_X8_readsLetter_59 (t_X8_readsLetter_60 (t_X8_readsLetter_61N (t_X8_readsLetter_62 (t_X8_readsLetter_63 (t_X8_readsLetter_66 u8 (Nat.le_of_ble_eq_true rfl) (sp_X8_number (at0 + 2) 0 255 _ hM3 rfl hT hN2 (by omega) (by decide) (by decide) (fun tk3 sw4 hM4 m4 => ?_))))))))
        rw [hP2] at hM4 ⊢
        have en2 : X2.2.2.1 = tkN T n (tkN T n (tkN T n (tkN T n p))) := by rw [← hP2]; rfl
        by_cases z2 : X2.1 = true
        · rw [if_pos z2]
          rw [thn_t z2, en2] at hq
          rw [en2] at hM4
          have hN3 := (tkN_ok (T := T) hN2).2.1
          obtain ⟨wfs, w8, wl, w6, w7, w9, w10, w11, w12, wT, wD⟩ := hM4.view
          refine t_X8_readsLetter_69 (fun h => absurd h (by decide)) (fun _ => ?_)
          refine t_X8_readsLetter_72 (t_X8_readsLetter_73 w8 (Nat.le_of_ble_eq_true rfl) (sp_X8_stops _ hM4 rfl hT hN3 (fun tk4 sw5 hM5 m5 => ?_)))
          have fin := hq tk4 sw5 hM5 ((((m1.tr m2).tr m3).tr m4).tr m5)
          generalize pStop T n (tkN T n (tkN T n (tkN T n (tkN T n p)))) X2.2.2.2 = X3 at fin ⊢
          by_cases z3 : X3.1 = true
          · rw [if_pos z3] at fin ⊢
            refine t_X8_readsLetter_76 (fun h => absurd h (by decide)) (fun _ => ?_)
            refine t_X8_readsLetter_79 (t_X8_readsLetter_80 (t_X8_readsLetter_84 rfl ?_))
            exact fin
          · rw [if_neg z3] at fin ⊢
            refine t_X8_readsLetter_76 (fun _ => ?_) (fun h => absurd rfl h)
            exact fail sw5 fin
        · rw [if_neg z2]
          rw [thn_f z2] at hq
          have fin := hq tk3 sw4 hM4 (((m1.tr m2).tr m3).tr m4)
          rw [if_neg z2] at fin
          refine t_X8_readsLetter_69 (fun _ => ?_) (fun h => absurd rfl h)
          exact fail sw4 fin
      · rw [if_neg z1]
        rw [thn_f z1, thn_f z1] at hq
        have fin := hq tk2 sw3 hM3 ((m1.tr m2).tr m3)
        rw [if_neg z1] at fin
        refine t_X8_readsLetter_55 (fun _ => ?_) (fun h => absurd rfl h)
        exact fail sw3 fin
    · rw [if_neg z0]
      rw [thn_f z0, thn_f z0, thn_f z0] at hq
      have fin := hq tk1 sw2 hM2 (m1.tr m2)
      rw [if_neg z0] at fin
      refine t_X8_readsLetter_41 (fun _ => ?_) (fun h => absurd rfl h)
      exact fail sw2 fin
  · have hno : ¬ (97 ≤ tkC T n p ∧ tkC T n p ≤ 102) := fun z => g ((tk_in hc (by decide) (by decide)).mpr z)
    rw [if_neg hno] at hq
    refine t_X8_readsLetter_15 (fun h => absurd rfl h) (fun _ => ?_)
    refine t_X8_readsLetter_18 (t_X8_readsLetter_19 rfl ?_)
    exact hq _ sw1 hM1 m1
theorem sp_X8_readsLine (st p : Nat) (hM : mrW r U fk Kp T rd ln nu kn ua n sk pv ts tk sw) (hpv : pv = nI p) (hts : ts = nI st) (hT : txOk T n) (hp : p ≤ n) (hB : rdB rd) (hq : mq r U fk Kp T ln nu kn ua n sk Qs sw (pLine T n st p rd)) : gv_S ε (d + 3) m_X8_readsLine [.ref 44] sw Qs := by
  obtain ⟨afs, a8, al, a6, a7, a9, a10, a11, a12, aT, aD⟩ := hM.view
  obtain ⟨b1, b2, b3⟩ := hB
  unfold pLine at hq
  generalize hl : rd 21 = l at hq b1 b3
  have loop : ∀ (f q : Nat) (rd1 : Nat → Nat) (sw1 : List va_E), l < 4 → q ≤ n → rd1 (22 + l) + f = 8 → mrW r U fk Kp T rd1 ln nu kn ua n sk (nI (tkN T n q)) (nI (bl T n q)) (tkI (tkC T n q)) sw1 → same 44 11 sw sw1 → mq r U fk Kp T ln nu kn ua n sk Qs sw (pLin T n l (f + 1) q rd1) → gv_M ε (d + 3) m_X8_readsLine sw.length Qs 30 [some (.ref 44), some (.int (nI l))] [] sw1 0 0 := by
    intro f
    induction f with
    | zero =>
      intro q rd1 sw1 hl4 hqn hf hM1 m1 hq
      obtain ⟨yfs, y8, yl, y6, y7, y9, y10, y11, y12, yT, yD⟩ := hM1.view
      have hc := tkC_le hqn hT
      rw [pLin_s] at hq
      have sign : (tkC T n q = 46 ∨ (97 ≤ tkC T n q ∧ tkC T n q ≤ 102)) → gv_M ε (d + 3) m_X8_readsLine sw.length Qs 53 [some (.ref 44), some (.int (nI l))] [] sw1 0 0 := by
        intro z
        rw [if_pos z, if_pos (by omega)] at hq
        refine t_X8_readsLine_53 (t_X8_readsLine_54 y8 y12 (t_X8_readsLine_57 (t_X8_readsLine_59 (t_X8_readsLine_60N (t_X8_readsLine_61 yD (22 + l) (by omega) rfl (by decide) (t_X8_readsLine_62 (t_X8_readsLine_64N (by omega) (by omega) (fun h => absurd h (by omega)) (fun h => ?_))))))))
        refine t_X8_readsLine_67 (t_X8_readsLine_68 rfl ?_)
        exact hq _ sw1 hM1 m1
      refine t_X8_readsLine_30 (t_X8_readsLine_31 y8 y11 (t_X8_readsLine_34 (t_X8_readsLine_36 (fun h => ?_) (fun h => ?_))))
      · exact sign (Or.inl ((tk_eq hc (by decide)).mp h))
      · have c46 : tkC T n q ≠ 46 := fun e => h ((tk_eq hc (by decide)).mpr e)
        refine t_X8_readsLine_39 (t_X8_readsLine_40 y8 y11 (t_X8_readsLine_43 (t_X8_readsLine_45 (t_X8_readsLine_47 (Nat.le_of_ble_eq_true rfl) (sp_X8_in _ _ _ (fun g1 g2 => ?_) (fun g => ?_))))))
        · refine t_X8_readsLine_50 (fun h => absurd h (by decide)) (fun _ => ?_)
          exact sign (Or.inr ((tk_in hc (by decide) (by decide)).mp ⟨g1, g2⟩))
        · rw [if_neg (fun z => z.elim c46 (fun z => g ((tk_in hc (by decide) (by decide)).mpr z)))] at hq
          have fin := hq _ sw1 hM1 m1
          refine t_X8_readsLine_50 (fun _ => ?_) (fun h => absurd rfl h)
          refine t_X8_readsLine_132 (t_X8_readsLine_133 y8 y11 (t_X8_readsLine_136 (t_X8_readsLine_138 (fun k => ?_) (fun k => ?_))))
          · have hX : ¬ (decide (tkC T n q = 59)) = true := fun z => k ((tk_eq hc (by decide)).mpr (of_decide_eq_true z))
            rw [if_neg hX] at fin
            refine t_X8_readsLine_145 (t_X8_readsLine_146 rfl ?_)
            exact fin
          · have hX : (decide (tkC T n q = 59)) = true := decide_eq_true ((tk_eq hc (by decide)).mp k)
            rw [if_pos hX] at fin
            refine t_X8_readsLine_141 (t_X8_readsLine_142 (t_X8_readsLine_146 rfl ?_))
            exact fin
    | succ f ih =>
      intro q rd1 sw1 hl4 hqn hf hM1 m1 hq
      obtain ⟨yfs, y8, yl, y6, y7, y9, y10, y11, y12, yT, yD⟩ := hM1.view
      have hc := tkC_le hqn hT
      rw [pLin_s] at hq
      have hN := (tkN_ok (T := T) hqn).2.1
      have sign : (tkC T n q = 46 ∨ (97 ≤ tkC T n q ∧ tkC T n q ≤ 102)) → gv_M ε (d + 3) m_X8_readsLine sw.length Qs 53 [some (.ref 44), some (.int (nI l))] [] sw1 0 0 := by
        intro z
        rw [if_pos z, if_neg (by omega)] at hq
        have go : ∀ g, g = (if tkC T n q = 46 then 6 else tkC T n q - 97) → gv_M ε (d + 3) m_X8_readsLine sw.length Qs 111 [some (.ref 44), some (.int (nI l))] [.int (nI g), .int (nI (26 + 8 * l + rd1 (22 + l))), .ref 50] sw1 0 0 := by
          intro g eg
          rw [← eg] at hq
          refine t_X8_readsLine_111 yD (26 + 8 * l + rd1 (22 + l)) (by omega) rfl (by decide) (?_)
          rw [nI_set]
          have hM2 := hM1.sD (up rd1 (26 + 8 * l + rd1 (22 + l)) g)
          have m2 : same 44 11 sw1 _ := same.set 50 (.inl (0, 58, .inl (fun i => nI (up rd1 (26 + 8 * l + rd1 (22 + l)) g i)))) rfl
          show gv_M ε (d + 3) m_X8_readsLine sw.length Qs 112 _ _ (List.set sw1 50 (.inl (0, 58, .inl (fun i => nI (up rd1 (26 + 8 * l + rd1 (22 + l)) g i))))) 0 0
          generalize List.set sw1 _ _ = sw2 at hM2 m2 ⊢
          obtain ⟨vfs, v8, vl, v6, v7, v9, v10, v11, v12, vT, vD⟩ := hM2.view
          refine t_X8_readsLine_112 (t_X8_readsLine_113 v8 v12 (t_X8_readsLine_116 (t_X8_readsLine_118 (t_X8_readsLine_119N (t_X8_readsLine_120 rfl rfl (t_X8_readsLine_121 vD (22 + l) (by omega) rfl (by decide) (?_)))))))
          rw [up_ne (by omega)]
          refine t_X8_readsLine_122 (t_X8_readsLine_123N (t_X8_readsLine_124 vD (22 + l) (by omega) rfl (by decide) (?_)))
          rw [nI_set]
          have hM3 := hM2.sD (up (up rd1 (26 + 8 * l + rd1 (22 + l)) g) (22 + l) (rd1 (22 + l) + 1))
          have m3 : same 44 11 sw2 _ := same.set 50 (.inl (0, 58, .inl (fun i => nI (up (up rd1 (26 + 8 * l + rd1 (22 + l)) g) (22 + l) (rd1 (22 + l) + 1) i)))) rfl
          show gv_M ε (d + 3) m_X8_readsLine sw.length Qs 125 _ _ (List.set sw2 50 (.inl (0, 58, .inl (fun i => nI (up (up rd1 (26 + 8 * l + rd1 (22 + l)) g) (22 + l) (rd1 (22 + l) + 1) i))))) 0 0
          generalize List.set sw2 _ _ = sw3 at hM3 m3 ⊢
          obtain ⟨ufs, u8, ul, u6, u7, u9, u10, u11, u12, uT, uD⟩ := hM3.view
          refine t_X8_readsLine_125 (t_X8_readsLine_126 u8 (Nat.le_of_ble_eq_true rfl) (sp_X8_next (tkN T n q) hM3 rfl hT hN (fun sw4 hM4 m4 => ?_)))
          refine t_X8_readsLine_129 (?_)
          exact ih (tkN T n q) _ sw4 hl4 hN (by rw [up_at]; omega) hM4 (((m1.tr m2).tr m3).tr m4) hq
        refine t_X8_readsLine_53 (t_X8_readsLine_54 y8 y12 (t_X8_readsLine_57 (t_X8_readsLine_59 (t_X8_readsLine_60N (t_X8_readsLine_61 yD (22 + l) (by omega) rfl (by decide) (t_X8_readsLine_62 (t_X8_readsLine_64N (by omega) (by omega) (fun h => ?_) (fun h => absurd h (by omega)))))))))
        refine t_X8_readsLine_69 (t_X8_readsLine_70 y8 y12 (t_X8_readsLine_73 (t_X8_readsLine_75 (t_X8_readsLine_77 (t_X8_readsLine_78N (t_X8_readsLine_79N (t_X8_readsLine_80 (t_X8_readsLine_81 y8 y12 (t_X8_readsLine_84 (t_X8_readsLine_86 (t_X8_readsLine_87N (t_X8_readsLine_88 yD (22 + l) (by omega) rfl (by decide) (t_X8_readsLine_89N (t_X8_readsLine_90 (t_X8_readsLine_91 y8 y11 (t_X8_readsLine_94 (t_X8_readsLine_96 (fun k => ?_) (fun k => ?_))))))))))))))))))
        · have c46 : tkC T n q ≠ 46 := fun e => k ((tk_eq hc (by decide)).mpr e)
          refine t_X8_readsLine_104 (t_X8_readsLine_105 y8 y11 (?_))
          rw [tk_nI (by omega)]
          refine t_X8_readsLine_108 (t_X8_readsLine_110N (by omega) (?_))
          exact go _ (by rw [if_neg c46])
        · refine t_X8_readsLine_99 (t_X8_readsLine_101 (?_))
          exact go 6 (by rw [if_pos ((tk_eq hc (by decide)).mp k)])
      refine t_X8_readsLine_30 (t_X8_readsLine_31 y8 y11 (t_X8_readsLine_34 (t_X8_readsLine_36 (fun h => ?_) (fun h => ?_))))
      · exact sign (Or.inl ((tk_eq hc (by decide)).mp h))
      · have c46 : tkC T n q ≠ 46 := fun e => h ((tk_eq hc (by decide)).mpr e)
        refine t_X8_readsLine_39 (t_X8_readsLine_40 y8 y11 (t_X8_readsLine_43 (t_X8_readsLine_45 (t_X8_readsLine_47 (Nat.le_of_ble_eq_true rfl) (sp_X8_in _ _ _ (fun g1 g2 => ?_) (fun g => ?_))))))
        · refine t_X8_readsLine_50 (fun h => absurd h (by decide)) (fun _ => ?_)
          exact sign (Or.inr ((tk_in hc (by decide) (by decide)).mp ⟨g1, g2⟩))
        · rw [if_neg (fun z => z.elim c46 (fun z => g ((tk_in hc (by decide) (by decide)).mpr z)))] at hq
          have fin := hq _ sw1 hM1 m1
          refine t_X8_readsLine_50 (fun _ => ?_) (fun h => absurd rfl h)
          refine t_X8_readsLine_132 (t_X8_readsLine_133 y8 y11 (t_X8_readsLine_136 (t_X8_readsLine_138 (fun k => ?_) (fun k => ?_))))
          · have hX : ¬ (decide (tkC T n q = 59)) = true := fun z => k ((tk_eq hc (by decide)).mpr (of_decide_eq_true z))
            rw [if_neg hX] at fin
            refine t_X8_readsLine_145 (t_X8_readsLine_146 rfl ?_)
            exact fin
          · have hX : (decide (tkC T n q = 59)) = true := decide_eq_true ((tk_eq hc (by decide)).mp k)
            rw [if_pos hX] at fin
            refine t_X8_readsLine_141 (t_X8_readsLine_142 (t_X8_readsLine_146 rfl ?_))
            exact fin
  refine gv_S.go rfl ?_
  refine t_X8_readsLine_0 (t_X8_readsLine_1 a8 a12 (t_X8_readsLine_4 (t_X8_readsLine_6 aD 21 (by decide) rfl (by decide) (?_))))
  rw [hl]
  refine t_X8_readsLine_7 (t_X8_readsLine_8 (t_X8_readsLine_9 (t_X8_readsLine_10N (by omega) (by omega) (fun h => ?_) (fun h => ?_))))
  · rw [if_neg h] at hq
    refine t_X8_readsLine_15 (t_X8_readsLine_16 a8 a12 (t_X8_readsLine_19 (t_X8_readsLine_21 rfl rfl (t_X8_readsLine_22 aD 21 (by decide) rfl (by decide) (?_)))))
    rw [hl]
    refine t_X8_readsLine_23 (t_X8_readsLine_24N (t_X8_readsLine_25 aD 21 (by decide) rfl (by decide) (?_)))
    rw [nI_set]
    have hM2 := hM.sD (up rd 21 (l + 1))
    have m2 : same 44 11 sw _ := same.set 50 (.inl (0, 58, .inl (fun i => nI (up rd 21 (l + 1) i)))) rfl
    show gv_M ε (d + 3) m_X8_readsLine sw.length Qs 26 _ _ (List.set sw 50 (.inl (0, 58, .inl (fun i => nI (up rd 21 (l + 1) i))))) 0 0
    generalize List.set sw _ _ = sw2 at hM2 m2 ⊢
    obtain ⟨vfs, v8, vl, v6, v7, v9, v10, v11, v12, vT, vD⟩ := hM2.view
    refine t_X8_readsLine_26 (t_X8_readsLine_27 v8 (Nat.le_of_ble_eq_true rfl) (sp_X8_next p hM2 hpv hT hp (fun sw3 hM3 m3 => ?_)))
    refine loop 8 p _ sw3 (by omega) hp ?_ hM3 (m2.tr m3) hq
    rw [up_ne (by omega), b3 l (Nat.le_refl _) (by omega)]
  · rw [if_pos h] at hq
    refine t_X8_readsLine_13 (t_X8_readsLine_14 rfl ?_)
    refine hq tk sw ?_ same.rf
    rw [← hpv, ← hts]
    exact hM
end S8
