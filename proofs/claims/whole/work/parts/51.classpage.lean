/-! the class's reader: lines, whole texts; page -/
section S3
variable {ε : gv_E} {d : Nat} {Qs : Option Value → List va_E → Prop} {sw : List va_E} {T : Nat → Nat} {n : Nat} {x : Nat → Int32} {t : shT} {rd : Nat → Nat}
theorem sp_X3_readLine (st p : Nat) (hw : wt 1 (reF T n x) sw) (h8 : wt 8 (shF 8 t) sw) (hT : txOk T n) (hx0 : x 0 = nI p) (hx1 : x 1 = nI st) (hp : p ≤ n) (hR : Rel t rd) (ho : shOk t) (hq : pq T n Qs sw (pLine T n st p rd)) : gv_S ε (d + 3) m_X3_readLine [.ref 1, .ref 8] sw Qs := by
  have h4 : sw[8]? = some (.inr (4, [.ref (8 + 1), .ref (8 + 2), .ref (8 + 3), .ref (8 + 4), .int (nI t.2.2.2.2)])) := h8.at 0 rfl
  have hl4 := ho.2.2.2.2.1
  have e21 : rd 21 = t.2.2.2.2 := hR.2.2.1
  unfold pLine at hq
  have hA : ∀ y, y < 7 → nI y ≠ -9 := by decide +kernel
  have loop : ∀ (m k q : Nat) (rd1 : Nat → Nat) (t1 : shT) (x1 : Nat → Int32) (a3 : Option Value) (sw1 : List va_E), k + m = 8 → q ≤ n → x1 0 = nI q → Rel t1 rd1 → shOk t1 → t1.2.2.2.2 = rd 21 + 1 → t1.2.2.1 (rd 21) = k → wt 1 (reF T n x1) sw1 → wt 8 (shF 8 t1) sw1 → fr sw sw1 → pq T n Qs sw (pLin T n (rd 21) (m + 1) q rd1) → gv_M ε (d + 3) m_X3_readLine sw.length Qs 11 [some (.ref 1), some (.ref 8), some (.int (nI k)), a3] [] sw1 0 0 := by
    intro m
    induction m with
    | zero =>
      intro k q rd1 t1 x1 a3 sw1 hk hqn hx1 hR1 ho1 hl1 hlen w1 w8 f1 hq
      have h3 : sw1[1]? = some (.inr (3, [.ref 2, .int (nI n), .int (x1 0), .int (x1 1), .int (x1 2), .int (x1 3)])) := w1.at 0 rfl
      have hl4 := ho1.2.2.2.2.1
      have r22 : rd1 (22 + rd 21) = 8 := by
        rw [hR1.2.2.2.1 (rd 21) (by omega), if_pos (by omega), hlen]
        omega
      refine t_X3_readLine_11 (t_X3_readLine_12 (t_X3_readLine_14N (by omega) (by omega) (fun h => absurd h (by omega)) (fun h => ?_)))
      refine t_X3_readLine_17 (t_X3_readLine_18 h3 (Nat.le_of_ble_eq_true rfl) (sp_X3_advance q w1 hT hx1 hqn (fun k' v' sw3 hk' w3 m3 => ?_)))
      have w10 := w8.keep m3 rfl
      have h3 : sw3[1]? = some (.inr (3, [.ref 2, .int (nI n), .int (nI (tkN T n q)), .int (nI (bl T n q)), .int k', .int v'])) := w3.at 0 rfl
      have h4 : sw3[8]? = some (.inr (4, [.ref (8 + 1), .ref (8 + 2), .ref (8 + 3), .ref (8 + 4), .int (nI t1.2.2.2.2)])) := w10.at 0 rfl
      have f3 := f1.tr (fr.s1 m3)
      rw [pLin_s] at hq
      have noApp : ∀ g, (tkC T n q = 46 ∨ (97 ≤ tkC T n q ∧ tkC T n q ≤ 102)) → g < 7 → gv_M ε (d + 3) m_X3_readLine sw.length Qs 53 [some (.ref 1), some (.ref 8), some (.int (nI k)), a3] [.int (nI g)] sw3 0 0 := by
        intro g hc hg
        rw [if_pos hc, if_pos r22] at hq
        refine t_X3_readLine_53 (t_X3_readLine_54 (t_X3_readLine_55 (t_X3_readLine_57 (fun h => absurd h (hA g hg)) (fun _ => ?_))))
        refine t_X3_readLine_60 (t_X3_readLine_61 (t_X3_readLine_62 h4 rfl (t_X3_readLine_65 (t_X3_readLine_66N (by omega) (?_)))))
        rw [show t1.2.2.2.2 - 1 = rd 21 by omega]
        refine t_X3_readLine_67 (t_X3_readLine_68 h4 (Nat.le_of_ble_eq_true rfl) (sp_X4_append (rd 21) g w10 hl4 (by omega) (by omega) (fun _ => ?_) (fun z => absurd z (by omega))))
        refine t_X3_readLine_71 (fun h => absurd rfl h) (fun _ => ?_)
        refine t_X3_readLine_74 (t_X3_readLine_75 rfl ?_)
        exact hq _ t1 sw3 rfl rfl (fun y => absurd y Bool.false_ne_true) w3 w10 f3
      refine t_X3_readLine_21 (t_X3_readLine_22 h3 rfl (t_X3_readLine_25 (t_X3_readLine_27 (fun y => ?_) (fun y => ?_))))
      · refine t_X3_readLine_32 (t_X3_readLine_33 h3 rfl (t_X3_readLine_36 (t_X3_readLine_38 (fun z => ?_) (fun z => ?_))))
        · refine t_X3_readLine_46 (t_X3_readLine_47 h3 rfl (t_X3_readLine_50 (Nat.le_of_ble_eq_true rfl) (sp_X3_letterOf k' v' (tkC T n q) hk' (fun c1 c2 => ?_) (fun hc => ?_))))
          · exact noApp _ (Or.inr ⟨c1, c2⟩) (by omega)
          · have c46 : tkC T n q ≠ 46 := fun e => z ((kd_lt hk' (by decide)).mpr e)
            rw [if_neg (fun e => e.elim c46 hc)] at hq
            have hf : ¬ (decide (tkC T n q = 59)) = true := fun e => y ((kd_lt hk' (by decide)).mpr (of_decide_eq_true e))
            have fin := hq _ t1 sw3 rfl rfl (fun e => absurd e hf) w3 w10 f3
            rw [if_neg hf] at fin
            refine t_X3_readLine_53 (t_X3_readLine_54 (t_X3_readLine_55 (t_X3_readLine_57 (fun _ => ?_) (fun h => absurd rfl h))))
            refine t_X3_readLine_74 (t_X3_readLine_75 rfl ?_)
            exact fin
        · refine t_X3_readLine_41 (t_X3_readLine_43 (?_))
          exact noApp 6 (Or.inl ((kd_lt hk' (by decide)).mp z)) (by decide)
      · have c59 := (kd_lt hk' (by decide)).mp y
        rw [if_neg (by omega)] at hq
        have ht : (decide (tkC T n q = 59)) = true := decide_eq_true c59
        have fin := hq _ t1 sw3 rfl rfl (fun _ => ⟨hR1, ho1⟩) w3 w10 f3
        rw [if_pos ht] at fin
        refine t_X3_readLine_30 (t_X3_readLine_31 rfl ?_)
        exact fin
    | succ m ih =>
      intro k q rd1 t1 x1 a3 sw1 hk hqn hx1 hR1 ho1 hl1 hlen w1 w8 f1 hq
      have h3 : sw1[1]? = some (.inr (3, [.ref 2, .int (nI n), .int (x1 0), .int (x1 1), .int (x1 2), .int (x1 3)])) := w1.at 0 rfl
      have hl4 := ho1.2.2.2.2.1
      have r22 : rd1 (22 + rd 21) = k := by
        rw [hR1.2.2.2.1 (rd 21) (by omega), if_pos (by omega), hlen]
      refine t_X3_readLine_11 (t_X3_readLine_12 (t_X3_readLine_14N (by omega) (by omega) (fun h => absurd h (by omega)) (fun h => ?_)))
      refine t_X3_readLine_17 (t_X3_readLine_18 h3 (Nat.le_of_ble_eq_true rfl) (sp_X3_advance q w1 hT hx1 hqn (fun k' v' sw3 hk' w3 m3 => ?_)))
      have w10 := w8.keep m3 rfl
      have h3 : sw3[1]? = some (.inr (3, [.ref 2, .int (nI n), .int (nI (tkN T n q)), .int (nI (bl T n q)), .int k', .int v'])) := w3.at 0 rfl
      have h4 : sw3[8]? = some (.inr (4, [.ref (8 + 1), .ref (8 + 2), .ref (8 + 3), .ref (8 + 4), .int (nI t1.2.2.2.2)])) := w10.at 0 rfl
      have f3 := f1.tr (fr.s1 m3)
      rw [pLin_s] at hq
      have app : ∀ g, (tkC T n q = 46 ∨ (97 ≤ tkC T n q ∧ tkC T n q ≤ 102)) → g < 7 → g = (if tkC T n q = 46 then 6 else tkC T n q - 97) → gv_M ε (d + 3) m_X3_readLine sw.length Qs 53 [some (.ref 1), some (.ref 8), some (.int (nI k)), a3] [.int (nI g)] sw3 0 0 := by
        intro g hc hg eg
        rw [if_pos hc, if_neg (by omega), ← eg] at hq
        refine t_X3_readLine_53 (t_X3_readLine_54 (t_X3_readLine_55 (t_X3_readLine_57 (fun h => absurd h (hA g hg)) (fun _ => ?_))))
        refine t_X3_readLine_60 (t_X3_readLine_61 (t_X3_readLine_62 h4 rfl (t_X3_readLine_65 (t_X3_readLine_66N (by omega) (?_)))))
        rw [show t1.2.2.2.2 - 1 = rd 21 by omega]
        refine t_X3_readLine_67 (t_X3_readLine_68 h4 (Nat.le_of_ble_eq_true rfl) (sp_X4_append (rd 21) g w10 hl4 (by omega) (by omega) (fun z => absurd z (by omega)) (fun hlt sw4 w11 m4 => ?_)))
        have w4 := w3.keep m4 rfl
        refine t_X3_readLine_71 (fun _ => ?_) (fun h => absurd h (by decide))
        refine t_X3_readLine_76N (t_X3_readLine_79 (?_))
        refine ih (k + 1) (tkN T n q) _ (shApp t1 (rd 21) g) _ _ sw4 (by omega) (tkN_ok hqn).2.1 rfl ?_ (shOk_app ho1 (by omega) hlt (by omega)) hl1 (by rw [← hlen]; exact up_at _ _ _) w4 w11 (f3.tr (fr.s8 m4)) hq
        have := Rel_app hR1 ho1 (l := rd 21) (g := g) (by omega) hlt
        rw [hlen] at this
        rw [r22]
        exact this
      refine t_X3_readLine_21 (t_X3_readLine_22 h3 rfl (t_X3_readLine_25 (t_X3_readLine_27 (fun y => ?_) (fun y => ?_))))
      · refine t_X3_readLine_32 (t_X3_readLine_33 h3 rfl (t_X3_readLine_36 (t_X3_readLine_38 (fun z => ?_) (fun z => ?_))))
        · have c46 : tkC T n q ≠ 46 := fun e => z ((kd_lt hk' (by decide)).mpr e)
          refine t_X3_readLine_46 (t_X3_readLine_47 h3 rfl (t_X3_readLine_50 (Nat.le_of_ble_eq_true rfl) (sp_X3_letterOf k' v' (tkC T n q) hk' (fun c1 c2 => ?_) (fun hc => ?_))))
          · exact app _ (Or.inr ⟨c1, c2⟩) (by omega) (by rw [if_neg c46])
          · rw [if_neg (fun e => e.elim c46 hc)] at hq
            have hf : ¬ (decide (tkC T n q = 59)) = true := fun e => y ((kd_lt hk' (by decide)).mpr (of_decide_eq_true e))
            have fin := hq _ t1 sw3 rfl rfl (fun e => absurd e hf) w3 w10 f3
            rw [if_neg hf] at fin
            refine t_X3_readLine_53 (t_X3_readLine_54 (t_X3_readLine_55 (t_X3_readLine_57 (fun _ => ?_) (fun h => absurd rfl h))))
            refine t_X3_readLine_74 (t_X3_readLine_75 rfl ?_)
            exact fin
        · have c46 := (kd_lt hk' (by decide)).mp z
          refine t_X3_readLine_41 (t_X3_readLine_43 (?_))
          exact app 6 (Or.inl c46) (by decide) (by rw [if_pos c46])
      · have c59 := (kd_lt hk' (by decide)).mp y
        rw [if_neg (by omega)] at hq
        have ht : (decide (tkC T n q = 59)) = true := decide_eq_true c59
        have fin := hq _ t1 sw3 rfl rfl (fun _ => ⟨hR1, ho1⟩) w3 w10 f3
        rw [if_pos ht] at fin
        refine t_X3_readLine_30 (t_X3_readLine_31 rfl ?_)
        exact fin
  refine gv_S.go rfl ?_
  refine t_X3_readLine_0 (t_X3_readLine_1 h4 (Nat.le_of_ble_eq_true rfl) (sp_X4_begin h8 hl4 (fun z => ?_) (fun z sw1 w1 m1 => ?_)))
  · rw [if_pos (e21.trans z)] at hq
    refine t_X3_readLine_4 (fun h => absurd rfl h) (fun _ => ?_)
    refine t_X3_readLine_7 (t_X3_readLine_8 rfl ?_)
    exact hq x t sw hx0 hx1 (fun y => absurd y Bool.false_ne_true) hw h8 fr.rf
  · rw [if_neg (by omega)] at hq
    refine t_X3_readLine_4 (fun _ => ?_) (fun h => absurd h (by decide))
    refine t_X3_readLine_9 (t_X3_readLine_10 (?_))
    refine loop 8 0 p (up rd 21 (rd 21 + 1)) (shBeg t) x _ sw1 (by decide) hp hx0 ?_ (shOk_beg ho z) ?_ ?_ (hw.keep m1 rfl) w1 (fr.s8 m1) hq
    · rw [e21]
      exact Rel_beg hR z
    · rw [e21]
      rfl
    · rw [e21]
      exact up_at _ _ _
theorem sp_X3_readItem (p : Nat) (k v : Int32) (hw : wt 1 (reF T n (x4 (nI (tkN T n p)) (nI (bl T n p)) k v)) sw) (hk : kdP k v (tkC T n p)) (h8 : wt 8 (shF 8 t) sw) (hT : txOk T n) (hp : p ≤ n) (hR : Rel t rd) (ho : shOk t) (hq : pq T n Qs sw (pItem T n p rd)) : gv_S ε (d + 4) m_X3_readItem [.ref 1, .ref 8] sw Qs := by
  have h3 : sw[1]? = some (.inr (3, [.ref 2, .int (nI n), .int (nI (tkN T n p)), .int (nI (bl T n p)), .int k, .int v])) := hw.at 0 rfl
  have hN := (tkN_ok (T := T) hp).2.1
  unfold pItem at hq
  have none : tkC T n p ≠ 103 → tkC T n p ≠ 114 → tkC T n p ≠ 110 → tkC T n p ≠ 100 → tkC T n p ≠ 108 → gv_M ε (d + 4) m_X3_readItem sw.length Qs 113 [some (.ref 1), some (.ref 8)] [] sw 0 0 := by
    intro c1 c2 c3 c4 c5
    rw [if_neg c1, if_neg c2, if_neg c3, if_neg c4, if_neg c5] at hq
    refine t_X3_readItem_113 (t_X3_readItem_114 rfl ?_)
    exact hq _ t sw rfl rfl (fun y => absurd y Bool.false_ne_true) hw h8 fr.rf
  have out : k.toInt < 100 ∨ 114 < k.toInt → gv_M ε (d + 4) m_X3_readItem sw.length Qs 0 [some (.ref 1), some (.ref 8)] [] sw 0 0 := by
    intro z
    have hno : ∀ m, 100 ≤ m → m ≤ 114 → tkC T n p ≠ m := by
      intro m h1 h2 e
      have e2 := (kd_lt hk (m := m) (by omega)).mpr e
      rw [e2, nI_toInt (by omega)] at z
      omega
    refine t_X3_readItem_0 (t_X3_readItem_1 h3 rfl (t_X3_readItem_4_d z ?_))
    exact none (hno _ (by decide) (by decide)) (hno _ (by decide) (by decide)) (hno _ (by decide) (by decide)) (hno _ (by decide) (by decide)) (hno _ (by decide) (by decide))
  refine gv_S.go rfl ?_
  by_cases hin : 100 ≤ tkC T n p ∧ tkC T n p ≤ 114
  · have hkc : k = nI (tkC T n p) := (kd_lt hk (by omega)).mpr rfl
    generalize hC : tkC T n p = c at hin hkc hq none
    subst hkc
    have hcs : c = 100 ∨ c = 101 ∨ c = 102 ∨ c = 103 ∨ c = 104 ∨ c = 105 ∨ c = 106 ∨ c = 107 ∨ c = 108 ∨ c = 109 ∨ c = 110 ∨ c = 111 ∨ c = 112 ∨ c = 113 ∨ c = 114 := by omega
    rcases hcs with e | e | e | e | e | e | e | e | e | e | e | e | e | e | e <;> subst e
    · refine t_X3_readItem_0 (t_X3_readItem_1 h3 rfl (t_X3_readItem_4_100 ?_))
      refine t_X3_readItem_101 (t_X3_readItem_102 (t_X3_readItem_103 h3 (Nat.le_of_ble_eq_true rfl) (sp_X3_readShape (tkN T n p) hw h8 hT rfl hN hR ho (fun x' t' sw' a b c e f g => ?_))))
      refine t_X3_readItem_106 (by split <;> rfl) ?_
      exact hq x' t' sw' a b c e f g
    · refine t_X3_readItem_0 (t_X3_readItem_1 h3 rfl (t_X3_readItem_4_101 ?_))
      exact none (by decide) (by decide) (by decide) (by decide) (by decide)
    · refine t_X3_readItem_0 (t_X3_readItem_1 h3 rfl (t_X3_readItem_4_102 ?_))
      exact none (by decide) (by decide) (by decide) (by decide) (by decide)
    · refine t_X3_readItem_0 (t_X3_readItem_1 h3 rfl (t_X3_readItem_4_103 ?_))
      refine t_X3_readItem_80 (t_X3_readItem_81 (t_X3_readItem_82 (t_X3_readItem_83 h3 (Nat.le_of_ble_eq_true rfl) (sp_X3_readSetting 0 (tkN T n p) hw h8 hT rfl hN hR ho (by decide) (fun x' t' sw' a b c e f g => ?_)))))
      refine t_X3_readItem_86 (by split <;> rfl) ?_
      exact hq x' t' sw' a b c e f g
    · refine t_X3_readItem_0 (t_X3_readItem_1 h3 rfl (t_X3_readItem_4_104 ?_))
      exact none (by decide) (by decide) (by decide) (by decide) (by decide)
    · refine t_X3_readItem_0 (t_X3_readItem_1 h3 rfl (t_X3_readItem_4_105 ?_))
      exact none (by decide) (by decide) (by decide) (by decide) (by decide)
    · refine t_X3_readItem_0 (t_X3_readItem_1 h3 rfl (t_X3_readItem_4_106 ?_))
      exact none (by decide) (by decide) (by decide) (by decide) (by decide)
    · refine t_X3_readItem_0 (t_X3_readItem_1 h3 rfl (t_X3_readItem_4_107 ?_))
      exact none (by decide) (by decide) (by decide) (by decide) (by decide)
    · refine t_X3_readItem_0 (t_X3_readItem_1 h3 rfl (t_X3_readItem_4_108 ?_))
      refine t_X3_readItem_107 (t_X3_readItem_108 (t_X3_readItem_109 h3 (Nat.le_of_ble_eq_true rfl) (sp_X3_readLine (bl T n p) (tkN T n p) hw h8 hT rfl rfl hN hR ho (fun x' t' sw' a b c e f g => ?_))))
      refine t_X3_readItem_112 (by split <;> rfl) ?_
      exact hq x' t' sw' a b c e f g
    · refine t_X3_readItem_0 (t_X3_readItem_1 h3 rfl (t_X3_readItem_4_109 ?_))
      exact none (by decide) (by decide) (by decide) (by decide) (by decide)
    · refine t_X3_readItem_0 (t_X3_readItem_1 h3 rfl (t_X3_readItem_4_110 ?_))
      refine t_X3_readItem_94 (t_X3_readItem_95 (t_X3_readItem_96 (t_X3_readItem_97 h3 (Nat.le_of_ble_eq_true rfl) (sp_X3_readSetting 2 (tkN T n p) hw h8 hT rfl hN hR ho (by decide) (fun x' t' sw' a b c e f g => ?_)))))
      refine t_X3_readItem_100 (by split <;> rfl) ?_
      exact hq x' t' sw' a b c e f g
    · refine t_X3_readItem_0 (t_X3_readItem_1 h3 rfl (t_X3_readItem_4_111 ?_))
      exact none (by decide) (by decide) (by decide) (by decide) (by decide)
    · refine t_X3_readItem_0 (t_X3_readItem_1 h3 rfl (t_X3_readItem_4_112 ?_))
      exact none (by decide) (by decide) (by decide) (by decide) (by decide)
    · refine t_X3_readItem_0 (t_X3_readItem_1 h3 rfl (t_X3_readItem_4_113 ?_))
      exact none (by decide) (by decide) (by decide) (by decide) (by decide)
    · refine t_X3_readItem_0 (t_X3_readItem_1 h3 rfl (t_X3_readItem_4_114 ?_))
      refine t_X3_readItem_87 (t_X3_readItem_88 (t_X3_readItem_89 (t_X3_readItem_90 h3 (Nat.le_of_ble_eq_true rfl) (sp_X3_readSetting 1 (tkN T n p) hw h8 hT rfl hN hR ho (by decide) (fun x' t' sw' a b c e f g => ?_)))))
      refine t_X3_readItem_93 (by split <;> rfl) ?_
      exact hq x' t' sw' a b c e f g
  · refine out ?_
    rcases hk with ⟨hc, e⟩ | ⟨hc, e⟩ | ⟨hc, e⟩ | ⟨hc, hc2, e, e2⟩
    · rw [e, nI_toInt (by omega)]
      omega
    · rw [e]
      decide
    · rw [e]
      decide
    · rw [e]
      decide
end S3
