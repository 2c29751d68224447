/-! the class's reader: items -/
theorem nI_neg : ∀ c, c < 256 → nI c ≠ -1 ∧ nI c ≠ -2 ∧ nI c ≠ -3 := by decide +kernel
theorem kd_lt {k v : Int32} {c : Nat} (h : kdP k v c) {m : Nat} (hm : m < 256) : k = nI m ↔ c = m := by
  have z := nI_neg m hm
  rcases h with ⟨hc, e⟩ | ⟨hc, e⟩ | ⟨hc, e⟩ | ⟨hc, hc2, e, e2⟩ <;> subst e
  · exact ⟨fun q => nI_inj (by omega) (by omega) q, fun q => by rw [q]⟩
  · exact ⟨fun q => absurd q.symm z.1, fun q => by omega⟩
  · exact ⟨fun q => absurd q.symm z.2.2, fun q => by omega⟩
  · exact ⟨fun q => absurd q.symm z.2.1, fun q => by omega⟩
theorem kd_num {k v : Int32} {c : Nat} (h : kdP k v c) : k = -2 ↔ 1000 ≤ c ∧ c < 2000 := by
  rcases h with ⟨hc, e⟩ | ⟨hc, e⟩ | ⟨hc, e⟩ | ⟨hc, hc2, e, e2⟩ <;> subst e
  · exact ⟨fun q => absurd q (nI_neg c hc).2.1, fun q => by omega⟩
  · exact ⟨fun q => absurd q (by decide), fun q => by omega⟩
  · exact ⟨fun q => absurd q (by decide), fun q => by omega⟩
  · exact ⟨fun _ => ⟨hc, hc2⟩, fun _ => rfl⟩
theorem kd_val {k v : Int32} {c : Nat} (h : kdP k v c) (h1 : 1000 ≤ c) (h2 : c < 2000) : v = nI (c - 1000) := by
  rcases h with ⟨hc, e⟩ | ⟨hc, e⟩ | ⟨hc, e⟩ | ⟨hc, hc2, e, e2⟩
  · omega
  · omega
  · omega
  · exact e2
theorem kd_end {k v : Int32} {c : Nat} (h : kdP k v c) : k = -1 ↔ c = 3000 := by
  rcases h with ⟨hc, e⟩ | ⟨hc, e⟩ | ⟨hc, e⟩ | ⟨hc, hc2, e, e2⟩ <;> subst e
  · exact ⟨fun q => absurd q (nI_neg c hc).1, fun q => by omega⟩
  · exact ⟨fun _ => hc, fun _ => rfl⟩
  · exact ⟨fun q => absurd q (by decide), fun q => by omega⟩
  · exact ⟨fun q => absurd q (by decide), fun q => by omega⟩
def fr (sw sw' : List va_E) : Prop := sw'.length = sw.length ∧ ∀ q : Nat, (q < 1 ∨ (3 ≤ q ∧ q < 8) ∨ 13 ≤ q) → sw'[q]? = sw[q]?
theorem fr.rf {sw : List va_E} : fr sw sw := ⟨rfl, fun _ _ => rfl⟩
theorem fr.tr {s1 s2 s3 : List va_E} (h1 : fr s1 s2) (h2 : fr s2 s3) : fr s1 s3 := ⟨h2.1.trans h1.1, fun q hq => (h2.2 q hq).trans (h1.2 q hq)⟩
theorem fr.s1 {sw sw' : List va_E} (h : same 1 2 sw sw') : fr sw sw' := ⟨h.1, fun q hq => h.2 q (by omega)⟩
theorem fr.s8 {sw sw' : List va_E} (h : same 8 5 sw sw') : fr sw sw' := ⟨h.1, fun q hq => h.2 q (by omega)⟩
theorem wt.keepF {b : Nat} {l sw sw' : List va_E} (h : wt b l sw) (hs : fr sw sw') (hd : b + l.length ≤ 1 ∨ (3 ≤ b ∧ b + l.length ≤ 8) ∨ 13 ≤ b) : wt b l sw' := by
  intro k e he
  have hk : k < l.length := (List.getElem?_eq_some_iff.mp he).1
  rw [hs.2 _ (by omega)]
  exact h k e he
def pq (T : Nat → Nat) (n : Nat) (Qs : Option Value → List va_E → Prop) (sw : List va_E) (X : PR) : Prop := ∀ (x' : Nat → Int32) (t' : shT) (sw' : List va_E), x' 0 = nI X.2.2.1 → x' 1 = nI X.2.1 → (X.1 = true → Rel t' X.2.2.2 ∧ shOk t') → wt 1 (reF T n x') sw' → wt 8 (shF 8 t') sw' → fr sw sw' → Qs (some (.int (nI (if X.1 = true then 1 else 0)))) sw'
section S3
variable {ε : gv_E} {d : Nat} {Qs : Option Value → List va_E → Prop} {sw : List va_E} {T : Nat → Nat} {n : Nat} {x : Nat → Int32} {t : shT} {rd : Nat → Nat}
theorem sp_X3_readSetting (w p : Nat) (hw : wt 1 (reF T n x) sw) (h8 : wt 8 (shF 8 t) sw) (hT : txOk T n) (hx0 : x 0 = nI p) (hp : p ≤ n) (hR : Rel t rd) (ho : shOk t) (hw3 : w < 3) (hq : pq T n Qs sw (pSet T n w p rd)) : gv_S ε (d + 3) m_X3_readSetting [.ref 1, .ref 8, .int (nI w)] sw Qs := by
  have h3 : sw[1]? = some (.inr (3, [.ref 2, .int (nI n), .int (x 0), .int (x 1), .int (x 2), .int (x 3)])) := hw.at 0 rfl
  refine gv_S.go rfl ?_
  refine t_X3_readSetting_0 (t_X3_readSetting_1 h3 (Nat.le_of_ble_eq_true rfl) (sp_X3_advance p hw hT hx0 hp (fun k v sw1 hk w1 m1 => ?_)))
  have w8 := h8.keep m1 rfl
  have h3 : sw1[1]? = some (.inr (3, [.ref 2, .int (nI n), .int (nI (tkN T n p)), .int (nI (bl T n p)), .int k, .int v])) := w1.at 0 rfl
  have h4 : sw1[8]? = some (.inr (4, [.ref (8 + 1), .ref (8 + 2), .ref (8 + 3), .ref (8 + 4), .int (nI t.2.2.2.2)])) := w8.at 0 rfl
  have hhi := hiP_le w
  unfold pSet at hq
  have bad : ¬ (1000 + loP w ≤ tkC T n p ∧ tkC T n p ≤ 1000 + hiP w) → Qs (some (.int (nI 0))) sw1 := by
    intro z
    have hf : ¬ (pNum T n (loP w) (hiP w) w p rd).1 = true := fun y => z (of_decide_eq_true y)
    rw [thn_f hf] at hq
    have := hq (x4 (nI (tkN T n p)) (nI (bl T n p)) k v) t sw1 rfl rfl (fun y => absurd y hf) w1 w8 (fr.s1 m1)
    rw [if_neg hf] at this
    exact this
  refine t_X3_readSetting_4 (t_X3_readSetting_5 h3 rfl (t_X3_readSetting_8 (t_X3_readSetting_10 (fun h => ?_) (fun h => ?_))))
  · refine t_X3_readSetting_24 (t_X3_readSetting_25 rfl ?_)
    refine bad (fun z => h ((kd_num hk).mpr ⟨by omega, by omega⟩))
  · obtain ⟨c1, c2⟩ := (kd_num hk).mp h
    have hv := kd_val hk c1 c2
    refine t_X3_readSetting_13 (t_X3_readSetting_14 (t_X3_readSetting_15 h3 rfl (t_X3_readSetting_18 (Nat.le_of_ble_eq_true rfl) (sp_X7_mayBeSet (nI w) v (fun p' w' hr e1 e2 => ?_) (fun g => ?_)))))
    · have hp' : p' < 3 := by rcases hr with ⟨a, _⟩ | ⟨a, _⟩ | ⟨a, _⟩ <;> omega
      have hw' : w' < 100 := by rcases hr with ⟨_, a⟩ | ⟨_, a⟩ | ⟨_, a⟩ <;> omega
      have e3 := nI_inj (by omega) (by omega) e1
      subst e3
      have e4 : w' = tkC T n p - 1000 := nI_inj (by omega) (by omega) (e2.symm.trans hv)
      have hin := (rg_iff hw3).mp hr
      have hok : 1000 + loP w ≤ tkC T n p ∧ tkC T n p ≤ 1000 + hiP w := by omega
      have hX : (pNum T n (loP w) (hiP w) w p rd).1 = true := decide_eq_true hok
      rw [thn_t hX] at hq
      have hb : sw1[8 + 1]? = some (.inl (0, 3, .inl (fun i => nI (t.1 i)))) := w8.at 1 rfl
      have hrd : (pNum T n (loP w) (hiP w) w p rd).2.2.2 = up rd w w' := by
        show (if _ then _ else _) = _
        rw [if_pos hok, e4]
      have hnx : (pNum T n (loP w) (hiP w) w p rd).2.2.1 = tkN T n p := rfl
      rw [hrd, hnx] at hq
      refine t_X3_readSetting_21 (fun _ => ?_) (fun h => absurd h (by decide))
      rw [e2] at h3 w1
      refine t_X3_readSetting_26 (t_X3_readSetting_27 h4 rfl (t_X3_readSetting_30 (t_X3_readSetting_31 (t_X3_readSetting_32 h3 rfl (t_X3_readSetting_35 hb w hw3 rfl (by decide) (?_))))))
      rw [nI_set]
      have w9 : wt 8 (shF 8 (shSet t w w')) _ := w8.set 1 (.inl (0, 3, .inl (fun i => nI (if i = w then w' else t.1 i)))) rfl
      have m2 : same 8 5 sw1 _ := same.set 9 (.inl (0, 3, .inl (fun i => nI (if i = w then w' else t.1 i)))) rfl
      generalize List.set sw1 _ _ = sw2 at w9 m2 ⊢
      have w2 := w1.keep m2 rfl
      have h3 : sw2[1]? = some (.inr (3, [.ref 2, .int (nI n), .int (nI (tkN T n p)), .int (nI (bl T n p)), .int k, .int (nI w')])) := w2.at 0 rfl
      refine t_X3_readSetting_36 (t_X3_readSetting_37 h3 (Nat.le_of_ble_eq_true rfl) (sp_X3_advance (tkN T n p) w2 hT rfl (tkN_ok hp).2.1 (fun k' v' sw3 hk' w3 m3 => ?_)))
      have w10 := w9.keep m3 rfl
      have h3 : sw3[1]? = some (.inr (3, [.ref 2, .int (nI n), .int (nI (tkN T n (tkN T n p))), .int (nI (bl T n (tkN T n p))), .int k', .int v'])) := w3.at 0 rfl
      have fin := hq _ (shSet t w w') sw3 rfl rfl (fun _ => ⟨Rel_set hR hw3, shOk_set ho hr⟩) w3 w10 (((fr.s1 m1).tr (fr.s8 m2)).tr (fr.s1 m3))
      refine t_X3_readSetting_40 (t_X3_readSetting_41 h3 rfl (t_X3_readSetting_44 (t_X3_readSetting_46 (fun y => ?_) (fun y => ?_))))
      · refine t_X3_readSetting_53 (t_X3_readSetting_54 rfl ?_)
        have : ¬ (pStop T n (tkN T n p) (up rd w w')).1 = true := fun z => y ((kd_lt hk' (by decide)).mpr (of_decide_eq_true z))
        rw [if_neg this] at fin
        exact fin
      · refine t_X3_readSetting_49 (t_X3_readSetting_50 (t_X3_readSetting_54 rfl ?_))
        have : (pStop T n (tkN T n p) (up rd w w')).1 = true := decide_eq_true ((kd_lt hk' (by decide)).mp y)
        rw [if_pos this] at fin
        exact fin
    · refine t_X3_readSetting_21 (fun h => absurd rfl h) (fun _ => ?_)
      refine t_X3_readSetting_24 (t_X3_readSetting_25 rfl ?_)
      refine bad (fun z => g ⟨w, tkC T n p - 1000, (rg_iff hw3).mpr (by omega), rfl, hv⟩)
theorem sp_X3_readShape (p : Nat) (hw : wt 1 (reF T n x) sw) (h8 : wt 8 (shF 8 t) sw) (hT : txOk T n) (hx0 : x 0 = nI p) (hp : p ≤ n) (hR : Rel t rd) (ho : shOk t) (hq : pq T n Qs sw (pShape T n p rd)) : gv_S ε (d + 3) m_X3_readShape [.ref 1, .ref 8] sw Qs := by
  have h3 : sw[1]? = some (.inr (3, [.ref 2, .int (nI n), .int (x 0), .int (x 1), .int (x 2), .int (x 3)])) := hw.at 0 rfl
  refine gv_S.go rfl ?_
  refine t_X3_readShape_0 (t_X3_readShape_1 h3 (Nat.le_of_ble_eq_true rfl) (sp_X3_advance p hw hT hx0 hp (fun k v sw1 hk w1 m1 => ?_)))
  have w8 := h8.keep m1 rfl
  have h3 : sw1[1]? = some (.inr (3, [.ref 2, .int (nI n), .int (nI (tkN T n p)), .int (nI (bl T n p)), .int k, .int v])) := w1.at 0 rfl
  unfold pShape at hq
  refine t_X3_readShape_4 (t_X3_readShape_5 h3 rfl (t_X3_readShape_8 (Nat.le_of_ble_eq_true rfl) (sp_X3_letterOf k v (tkC T n p) hk (fun c1 c2 => ?_) (fun hc => ?_))))
  · rw [if_pos ⟨c1, c2⟩] at hq
    have step : ∀ (c q : Nat) (rd1 : Nat → Nat) (t1 : shT) (x1 : Nat → Int32) (sw2 : List va_E), c < 3 → q ≤ n → x1 0 = nI q → Rel t1 rd1 → shOk t1 → wt 1 (reF T n x1) sw2 → wt 8 (shF 8 t1) sw2 → fr sw sw2 → ((¬ (pNum T n 0 255 (3 + 3 * (tkC T n p - 97) + c) q rd1).1 = true) → pq T n Qs sw (pNum T n 0 255 (3 + 3 * (tkC T n p - 97) + c) q rd1)) → ((pNum T n 0 255 (3 + 3 * (tkC T n p - 97) + c) q rd1).1 = true → ∀ (t2 : shT) (x2 : Nat → Int32) (sw3 : List va_E), x2 0 = nI (tkN T n q) → Rel t2 (pNum T n 0 255 (3 + 3 * (tkC T n p - 97) + c) q rd1).2.2.2 → shOk t2 → wt 1 (reF T n x2) sw3 → wt 8 (shF 8 t2) sw3 → fr sw sw3 → gv_M ε (d + 3) m_X3_readShape sw.length Qs 22 [some (.ref 1), some (.ref 8), some (.int (nI (tkC T n p - 97))), some (.int (nI (c + 1)))] [] sw3 0 0) → gv_M ε (d + 3) m_X3_readShape sw.length Qs 22 [some (.ref 1), some (.ref 8), some (.int (nI (tkC T n p - 97))), some (.int (nI c))] [] sw2 0 0 := by
      intro c q rd1 t1 x1 sw2 hc hq1 hx1 hR1 ho1 w1 w8 f1 kf kt
      have h3 : sw2[1]? = some (.inr (3, [.ref 2, .int (nI n), .int (x1 0), .int (x1 1), .int (x1 2), .int (x1 3)])) := w1.at 0 rfl
      refine t_X3_readShape_22 (t_X3_readShape_23 (t_X3_readShape_24N (by omega) (by omega) (fun h => absurd h (by omega)) (fun h => ?_)))
      refine t_X3_readShape_27 (t_X3_readShape_28 h3 (Nat.le_of_ble_eq_true rfl) (sp_X3_advance q w1 hT hx1 hq1 (fun k' v' sw3 hk' w3 m3 => ?_)))
      have w10 := w8.keep m3 rfl
      have h3 : sw3[1]? = some (.inr (3, [.ref 2, .int (nI n), .int (nI (tkN T n q)), .int (nI (bl T n q)), .int k', .int v'])) := w3.at 0 rfl
      have h4 : sw3[8]? = some (.inr (4, [.ref (8 + 1), .ref (8 + 2), .ref (8 + 3), .ref (8 + 4), .int (nI t1.2.2.2.2)])) := w10.at 0 rfl
      have bad : ¬ (1000 + 0 ≤ tkC T n q ∧ tkC T n q ≤ 1000 + 255) → Qs (some (.int (nI 0))) sw3 := by
        intro z
        have hf : ¬ (pNum T n 0 255 (3 + 3 * (tkC T n p - 97) + c) q rd1).1 = true := fun y => z (of_decide_eq_true y)
        have := kf hf (x4 (nI (tkN T n q)) (nI (bl T n q)) k' v') t1 sw3 rfl rfl (fun y => absurd y hf) w3 w10 (f1.tr (fr.s1 m3))
        rw [if_neg hf] at this
        exact this
      refine t_X3_readShape_31 (t_X3_readShape_32 h3 rfl (t_X3_readShape_35 (t_X3_readShape_37 (fun h => ?_) (fun h => ?_))))
      · refine t_X3_readShape_50 (t_X3_readShape_51 rfl ?_)
        exact bad (fun z => h ((kd_num hk').mpr ⟨by omega, by omega⟩))
      · obtain ⟨c3, c4⟩ := (kd_num hk').mp h
        have hv := kd_val hk' c3 c4
        subst hv
        refine t_X3_readShape_40 (t_X3_readShape_41 h3 rfl (t_X3_readShape_44 (t_X3_readShape_47N (by omega) (by omega) (fun g => ?_) (fun g => ?_))))
        · have hok : 1000 + 0 ≤ tkC T n q ∧ tkC T n q ≤ 1000 + 255 := by omega
          have hb : sw3[8 + 2]? = some (.inl (0, 18, .inl (fun i => nI (t1.2.1 i)))) := w10.at 2 rfl
          refine t_X3_readShape_52 (t_X3_readShape_53 h4 rfl (t_X3_readShape_56 (t_X3_readShape_57 (t_X3_readShape_58N (t_X3_readShape_59 (t_X3_readShape_60N (t_X3_readShape_61 (t_X3_readShape_62 h3 rfl (t_X3_readShape_65 hb (3 * (tkC T n p - 97) + c) (by omega) (by rw [Nat.mul_comm]) (by decide) (?_))))))))))
          rw [nI_set]
          have w11 : wt 8 (shF 8 (shDraw t1 (3 * (tkC T n p - 97) + c) (tkC T n q - 1000))) _ := w10.set 2 (.inl (0, 18, .inl (fun i => nI (if i = 3 * (tkC T n p - 97) + c then tkC T n q - 1000 else t1.2.1 i)))) rfl
          have m4 : same 8 5 sw3 _ := same.set 10 (.inl (0, 18, .inl (fun i => nI (if i = 3 * (tkC T n p - 97) + c then tkC T n q - 1000 else t1.2.1 i)))) rfl
          generalize List.set sw3 _ _ = sw4 at w11 m4 ⊢
          have w4 := w3.keep m4 rfl
          have hrd : (pNum T n 0 255 (3 + 3 * (tkC T n p - 97) + c) q rd1).2.2.2 = up rd1 (3 + (3 * (tkC T n p - 97) + c)) (tkC T n q - 1000) := by
            show (if _ then _ else _) = _
            rw [if_pos hok, Nat.add_assoc]
          refine t_X3_readShape_66N (t_X3_readShape_69 (?_))
          refine kt (decide_eq_true hok) _ _ sw4 rfl ?_ (shOk_draw ho1 (p := 3 * (tkC T n p - 97) + c) (w := tkC T n q - 1000) (by omega)) w4 w11 ((f1.tr (fr.s1 m3)).tr (fr.s8 m4))
          rw [hrd]
          exact Rel_draw hR1 (by omega)
        · refine t_X3_readShape_50 (t_X3_readShape_51 rfl ?_)
          exact bad (fun z => by omega)
    have hN := (tkN_ok (T := T) hp).2.1
    have hA : ∀ y, y < 6 → nI y ≠ -9 := by decide +kernel
    refine t_X3_readShape_11 (t_X3_readShape_12 (t_X3_readShape_13 (t_X3_readShape_15 (fun _ => ?_) (fun h => absurd h (hA _ (by omega))))))
    refine t_X3_readShape_20 (t_X3_readShape_21 (?_))
    generalize hP0 : pNum T n 0 255 (3 + 3 * (tkC T n p - 97)) (tkN T n p) rd = X0 at hq
    have eP0 : pNum T n 0 255 (3 + 3 * (tkC T n p - 97) + 0) (tkN T n p) rd = X0 := hP0
    refine step 0 (tkN T n p) rd t _ sw1 (by decide) hN rfl hR ho w1 w8 (fr.s1 m1) (fun z => ?_) (fun z t2 x2 sw3 e2 r2 o2 a2 b2 f2 => ?_)
    · rw [eP0] at z ⊢
      rw [thn_f z, thn_f z, thn_f z] at hq
      exact hq
    · rw [eP0] at z r2
      rw [thn_t z] at hq
      have en : X0.2.2.1 = tkN T n (tkN T n p) := by rw [← hP0]; rfl
      rw [en] at hq
      generalize hP1 : pNum T n 0 255 (3 + 3 * (tkC T n p - 97) + 1) (tkN T n (tkN T n p)) X0.2.2.2 = X1 at hq
      have hN1 := (tkN_ok (T := T) hN).2.1
      refine step 1 _ _ t2 x2 sw3 (by decide) hN1 e2 r2 o2 a2 b2 f2 (fun z => ?_) (fun z t3 x3 sw4 e3 r3 o3 a3 b3 f3 => ?_)
      · rw [hP1] at z ⊢
        rw [thn_f z, thn_f z] at hq
        exact hq
      · rw [hP1] at z r3
        rw [thn_t z] at hq
        have en1 : X1.2.2.1 = tkN T n (tkN T n (tkN T n p)) := by rw [← hP1]; rfl
        rw [en1] at hq
        generalize hP2 : pNum T n 0 255 (3 + 3 * (tkC T n p - 97) + 2) (tkN T n (tkN T n (tkN T n p))) X1.2.2.2 = X2 at hq
        have hN2 := (tkN_ok (T := T) hN1).2.1
        refine step 2 _ _ t3 x3 sw4 (by decide) hN2 e3 r3 o3 a3 b3 f3 (fun z => ?_) (fun z t4 x4' sw5 e4 r4 o4 a4 b4 f4 => ?_)
        · rw [hP2] at z ⊢
          rw [thn_f z] at hq
          exact hq
        · rw [hP2] at z r4
          rw [thn_t z] at hq
          have en2 : X2.2.2.1 = tkN T n (tkN T n (tkN T n (tkN T n p))) := by rw [← hP2]; rfl
          rw [en2] at hq
          have hN3 := (tkN_ok (T := T) hN2).2.1
          generalize tkN T n (tkN T n (tkN T n (tkN T n p))) = q5 at hq e4 hN3
          have h3 : sw5[1]? = some (.inr (3, [.ref 2, .int (nI n), .int (x4' 0), .int (x4' 1), .int (x4' 2), .int (x4' 3)])) := a4.at 0 rfl
          refine t_X3_readShape_22 (t_X3_readShape_23 (t_X3_readShape_24N (by omega) (by omega) (fun h => ?_) (fun h => absurd h (by omega))))
          refine t_X3_readShape_72 (t_X3_readShape_73 h3 (Nat.le_of_ble_eq_true rfl) (sp_X3_advance q5 a4 hT e4 hN3 (fun k' v' sw6 hk' w6 m6 => ?_)))
          have w10 := b4.keep m6 rfl
          have h3 : sw6[1]? = some (.inr (3, [.ref 2, .int (nI n), .int (nI (tkN T n q5)), .int (nI (bl T n q5)), .int k', .int v'])) := w6.at 0 rfl
          have fin := hq _ t4 sw6 rfl rfl (fun _ => ⟨r4, o4⟩) w6 w10 (f4.tr (fr.s1 m6))
          refine t_X3_readShape_76 (t_X3_readShape_77 h3 rfl (t_X3_readShape_80 (t_X3_readShape_82 (fun y => ?_) (fun y => ?_))))
          · refine t_X3_readShape_89 (t_X3_readShape_90 rfl ?_)
            have : ¬ (pStop T n q5 X2.2.2.2).1 = true := fun z => y ((kd_lt hk' (by decide)).mpr (of_decide_eq_true z))
            rw [if_neg this] at fin
            exact fin
          · refine t_X3_readShape_85 (t_X3_readShape_86 (t_X3_readShape_90 rfl ?_))
            have : (pStop T n q5 X2.2.2.2).1 = true := decide_eq_true ((kd_lt hk' (by decide)).mp y)
            rw [if_pos this] at fin
            exact fin
  · rw [if_neg hc] at hq
    refine t_X3_readShape_11 (t_X3_readShape_12 (t_X3_readShape_13 (t_X3_readShape_15 (fun h => absurd rfl h) (fun _ => ?_))))
    refine t_X3_readShape_18 (t_X3_readShape_19 rfl ?_)
    exact hq _ t sw1 rfl rfl (fun y => absurd y Bool.false_ne_true) w1 w8 (fr.s1 m1)
end S3
