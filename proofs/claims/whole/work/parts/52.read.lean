/-! the class: fill, reset, read, page -/
theorem wt.put {b : Nat} {l sw sw' : List va_E} (h : wt b l sw) (k : Nat) {e : va_E} (hs : same (b + k) 1 sw sw') (he : sw'[b + k]? = some e) : wt b (l.set k e) sw' := by
  intro j y hy
  rw [List.getElem?_set] at hy
  by_cases q : k = j
  · subst q
    rw [if_pos rfl] at hy
    split at hy
    · rw [he]
      exact hy
    · cases hy
  · rw [if_neg q] at hy
    rw [hs.2 _ (by omega)]
    exact h j y hy
/-- a result that lies within the text -/
def pIn (n p : Nat) (X : PR) : Prop := p ≤ X.2.2.1 ∧ X.2.2.1 ≤ n ∧ X.2.1 ≤ n
theorem pNum_in {T : Nat → Nat} {n lo hi a p : Nat} {rd : Nat → Nat} (hp : p ≤ n) : pIn n p (pNum T n lo hi a p rd) := ⟨(tkN_ok hp).1, (tkN_ok hp).2.1, (bl_ok hp).2.1⟩
theorem pStop_in {T : Nat → Nat} {n p : Nat} {rd : Nat → Nat} (hp : p ≤ n) : pIn n p (pStop T n p rd) := ⟨(tkN_ok hp).1, (tkN_ok hp).2.1, (bl_ok hp).2.1⟩
theorem thn_in {n p : Nat} {X : PR} {f : Nat → (Nat → Nat) → PR} (h : pIn n p X) (hf : ∀ q rd, q ≤ n → pIn n q (f q rd)) : pIn n p (thn X f) := by
  unfold thn
  split
  · have := hf X.2.2.1 X.2.2.2 h.2.1
    exact ⟨Nat.le_trans h.1 this.1, this.2⟩
  · exact h
theorem pSet_in {T : Nat → Nat} {n w p : Nat} {rd : Nat → Nat} (hp : p ≤ n) : pIn n p (pSet T n w p rd) := thn_in (pNum_in hp) (fun q rd hq => pStop_in hq)
theorem pIn.up {n p q : Nat} {X : PR} (h : pIn n q X) (hpq : p ≤ q) : pIn n p X := ⟨Nat.le_trans hpq h.1, h.2⟩
theorem pShape_in {T : Nat → Nat} {n p : Nat} {rd : Nat → Nat} (hp : p ≤ n) : pIn n p (pShape T n p rd) := by
  unfold pShape
  have hN := tkN_ok (T := T) hp
  split
  · exact (thn_in (thn_in (thn_in (pNum_in hN.2.1) (fun q rd hq => pNum_in hq)) (fun q rd hq => pNum_in hq)) (fun q rd hq => pStop_in hq)).up hN.1
  · exact ⟨hN.1, hN.2.1, (bl_ok hp).2.1⟩
theorem pLin_in {T : Nat → Nat} {n l : Nat} : ∀ (f p : Nat) (rd : Nat → Nat), p ≤ n → pIn n p (pLin T n l f p rd) := by
  intro f
  induction f with
  | zero => intro p rd hp; exact ⟨(tkN_ok hp).1, (tkN_ok hp).2.1, (bl_ok hp).2.1⟩
  | succ f ih =>
    intro p rd hp
    have hN := tkN_ok (T := T) hp
    rw [pLin_s]
    split
    · split
      · exact ⟨hN.1, hN.2.1, (bl_ok hp).2.1⟩
      · exact (ih _ _ hN.2.1).up hN.1
    · exact ⟨hN.1, hN.2.1, (bl_ok hp).2.1⟩
theorem pLine_in {T : Nat → Nat} {n st p : Nat} {rd : Nat → Nat} (hp : p ≤ n) (hs : st ≤ n) : pIn n p (pLine T n st p rd) := by
  unfold pLine
  split
  · exact ⟨Nat.le_refl _, hp, hs⟩
  · exact pLin_in _ _ _ hp
theorem pItem_in {T : Nat → Nat} {n p : Nat} {rd : Nat → Nat} (hp : p ≤ n) : pIn n (tkN T n p) (pItem T n p rd) := by
  have hN := tkN_ok (T := T) hp
  unfold pItem
  split
  · exact pSet_in hN.2.1
  · split
    · exact pSet_in hN.2.1
    · split
      · exact pSet_in hN.2.1
      · split
        · exact pShape_in hN.2.1
        · split
          · exact pLine_in hN.2.1 (bl_ok hp).2.1
          · exact ⟨Nat.le_refl _, hN.2.1, (bl_ok hp).2.1⟩
section S4
variable {ε : gv_E} {d : Nat} {Qs : Option Value → List va_E → Prop} {sw : List va_E} {b : Nat} {t : shT}
theorem sp_fill {k m v : Nat} {f : Nat → Nat} (hm : m < 1000) (hk : sw[k]? = some (.inl (0, m, .inl (fun i => nI (f i))))) (h1 : ∀ (g : Nat → Nat) (sw' : List va_E), (∀ i, i < m → g i = v) → sw'[k]? = some (.inl (0, m, .inl (fun i => nI (g i)))) → same k 1 sw sw' → Qs none sw') : gv_S ε d m_J7_fill_53178 [.ref k, .int (nI v)] sw Qs := by
  have loop : ∀ (q j : Nat) (g : Nat → Nat) (sw1 : List va_E), j + q = m → (∀ i, i < j → g i = v) → sw1[k]? = some (.inl (0, m, .inl (fun i => nI (g i)))) → same k 1 sw sw1 → gv_M ε d m_J7_fill_53178 sw.length Qs 5 [some (.ref k), some (.int (nI v)), some (.int (nI j)), some (.int (nI m))] [] sw1 0 0 := by
    intro q
    induction q with
    | zero =>
      intro j g sw1 hj hg hA hs
      refine t_J7_fill_53178_5 (t_J7_fill_53178_6 (t_J7_fill_53178_7N (by omega) (by omega) (fun h => ?_) (fun h => absurd h (by omega))))
      refine t_J7_fill_53178_20 (Nat.le_refl _) ?_
      exact h1 g sw1 (fun i hi => hg i (by omega)) hA hs
    | succ q ih =>
      intro j g sw1 hj hg hA hs
      refine t_J7_fill_53178_5 (t_J7_fill_53178_6 (t_J7_fill_53178_7N (by omega) (by omega) (fun h => absurd h (by omega)) (fun h => ?_)))
      refine t_J7_fill_53178_10 (t_J7_fill_53178_11 (t_J7_fill_53178_12 (t_J7_fill_53178_13 hA j (by omega) rfl (by omega) (t_J7_fill_53178_14N (t_J7_fill_53178_17 (?_))))))
      rw [nI_set]
      have hin : k < sw1.length := (List.getElem?_eq_some_iff.mp hA).1
      refine ih (j + 1) (fun i => if i = j then v else g i) _ (by omega) (fun i hi => ?_) ?_ (hs.tr (same.setb 0 _ rfl))
      · by_cases e : i = j
        · exact if_pos e
        · exact (if_neg e).trans (hg i (by omega))
      · rw [List.getElem?_set_self hin]
  refine gv_S.go rfl ?_
  refine t_J7_fill_53178_0 (t_J7_fill_53178_1 (t_J7_fill_53178_2 (t_J7_fill_53178_3 hk (t_J7_fill_53178_4 (?_)))))
  exact loop m 0 f sw (by omega) (fun i hi => absurd hi (by omega)) hk same.rf
theorem sp_X4_reset (hw : wt b (shF b t) sw) (h1 : ∀ (t' : shT) (sw' : List va_E), Rel t' bgR → shOk t' → wt b (shF b t') sw' → same b 5 sw sw' → Qs none sw') : gv_S ε (d + 1) m_X4_reset [.ref b] sw Qs := by
  have step : ∀ (i v : Nat) (a : Nat → Nat) (sw1 : List va_E), i < 3 → (gv_x ε 0).2 i = nI v → wt b (shF b (a, t.2)) sw1 → (∀ sw2, wt b (shF b (up a i v, t.2)) sw2 → same b 5 sw1 sw2 → gv_M ε (d + 1) m_X4_reset sw.length Qs 2 [some (.ref b), some (.int (nI (i + 1)))] [] sw2 0 0) → gv_M ε (d + 1) m_X4_reset sw.length Qs 2 [some (.ref b), some (.int (nI i))] [] sw1 0 0 := by
    intro i v a sw1 hi hv w1 kk
    have h4 : sw1[b]? = some (.inr (4, [.ref (b + 1), .ref (b + 2), .ref (b + 3), .ref (b + 4), .int (nI t.2.2.2.2)])) := w1.at 0 rfl
    have hA : sw1[b + 1]? = some (.inl (0, 3, .inl (fun i => nI (a i)))) := w1.at 1 rfl
    refine t_X4_reset_2 (t_X4_reset_3 (t_X4_reset_4N (by omega) (by omega) (fun h => absurd h (by omega)) (fun h => ?_)))
    refine t_X4_reset_7 (t_X4_reset_8 h4 rfl (t_X4_reset_11 (t_X4_reset_12 (t_X4_reset_15 (t_X4_reset_16_x (j := 0) (by decide) i hi rfl (Nat.le_of_ble_eq_true rfl) (?_))))))
    rw [hv]
    refine t_X4_reset_17 hA i hi rfl (by decide) (t_X4_reset_18N (t_X4_reset_21 (?_)))
    rw [nI_set]
    exact kk _ (w1.set 1 (.inl (0, 3, .inl (fun k => nI (if k = i then v else a k)))) rfl) (same.setb 1 _ rfl)
  refine gv_S.go rfl ?_
  refine t_X4_reset_0 (t_X4_reset_1 (?_))
  refine step 0 2 t.1 sw (by decide) rfl hw (fun sw1 w1 m1 => ?_)
  refine step 1 1 _ sw1 (by decide) rfl w1 (fun sw2 w2 m2 => ?_)
  refine step 2 12 _ sw2 (by decide) rfl w2 (fun sw3 w3 m3 => ?_)
  have h4 : sw3[b]? = some (.inr (4, [.ref (b + 1), .ref (b + 2), .ref (b + 3), .ref (b + 4), .int (nI t.2.2.2.2)])) := w3.at 0 rfl
  have hA : sw3[b + 2]? = some (.inl (0, 18, .inl (fun i => nI (t.2.1 i)))) := w3.at 2 rfl
  refine t_X4_reset_2 (t_X4_reset_3 (t_X4_reset_4N (by omega) (by omega) (fun h => ?_) (fun h => absurd h (by omega))))
  refine t_X4_reset_24 (t_X4_reset_25 h4 rfl (t_X4_reset_28 (t_X4_reset_29 (Nat.le_of_ble_eq_true rfl) (sp_fill (v := 0) (by decide) hA (fun g sw4 hg hc m4 => ?_)))))
  have w4 : wt b (shF b (up (up (up t.1 0 2) 1 1) 2 12, g, t.2.2)) sw4 := w3.put 2 m4 hc
  have h4 : sw4[b]? = some (.inr (4, [.ref (b + 1), .ref (b + 2), .ref (b + 3), .ref (b + 4), .int (nI t.2.2.2.2)])) := w4.at 0 rfl
  refine t_X4_reset_32 (t_X4_reset_33 (t_X4_reset_34 h4 rfl (t_X4_reset_37 (Nat.le_refl _) ?_)))
  refine h1 (up (up (up t.1 0 2) 1 1) 2 12, g, t.2.2.1, t.2.2.2.1, 0) _ ?_ ?_ (w4.set 0 _ rfl) ((((m1.tr m2).tr m3).tr ⟨m4.1, fun q hq => m4.2 q (by omega)⟩).tr (same.setb 0 _ rfl))
  · refine ⟨fun i hi => ?_, fun j hj => ?_, rfl, fun l hl => ?_, fun l k hl hk => ?_⟩
    · have : i = 0 ∨ i = 1 ∨ i = 2 := by omega
      rcases this with e | e | e <;> subst e <;> rfl
    · show bgR (3 + j) = g j
      rw [hg j hj]
      unfold bgR
      rw [if_neg (by omega), if_neg (by omega), if_neg (by omega)]
    · show bgR (22 + l) = if l < 0 then _ else 0
      rw [if_neg (by omega)]
      unfold bgR
      rw [if_neg (by omega), if_neg (by omega), if_neg (by omega)]
    · show bgR (26 + 8 * l + k) = if l < 0 ∧ _ then _ else 0
      rw [if_neg (fun z => absurd z.1 (by omega))]
      unfold bgR
      rw [if_neg (by omega), if_neg (by omega), if_neg (by omega)]
  · exact ⟨Nat.le_of_ble_eq_true rfl, Nat.le_of_ble_eq_true rfl, ⟨Nat.le_of_ble_eq_true rfl, Nat.le_of_ble_eq_true rfl⟩, fun j hj => by show g j ≤ 255; rw [hg j hj]; omega, Nat.zero_le _, fun l hl => absurd hl (Nat.not_lt_zero _), fun l k hl => absurd hl (Nat.not_lt_zero _)⟩
end S4
section S3
variable {ε : gv_E} {d : Nat} {Qs : Option Value → List va_E → Prop} {sw : List va_E} {T : Nat → Nat} {n : Nat} {x : Nat → Int32} {t : shT}
theorem sp_X3_read {rd0 : Nat → Nat} (hr0 : ∀ i, i < 58 → rd0 i = bgR i) (hw : wt 1 (reF T n x) sw) (h8 : wt 8 (shF 8 t) sw) (hT : txOk T n) (h1 : (pAll T n 121 0 0 rd0).1 = true → (pAll T n 121 0 0 rd0).2.1 ≤ 120 → ∀ x' t' sw', Rel t' (pAll T n 121 0 0 rd0).2.2 → shOk t' → wt 1 (reF T n x') sw' → wt 8 (shF 8 t') sw' → fr sw sw' → Qs (some (.int (nI (pAll T n 121 0 0 rd0).2.1))) sw') (h0 : ¬ (pAll T n 121 0 0 rd0).1 = true → (pAll T n 121 0 0 rd0).2.1 ≤ 120 → ∀ x' t' sw', wt 1 (reF T n x') sw' → wt 8 (shF 8 t') sw' → fr sw sw' → Qs (some (.int (-10 - nI (pAll T n 121 0 0 rd0).2.1))) sw') : gv_S ε (d + 5) m_X3_read [.ref 1, .ref 8] sw Qs := by
  have hn := hT.1
  generalize hY : pAll T n 121 0 0 rd0 = Y at h0 h1
  have loop : ∀ (f k p : Nat) (rd : Nat → Nat) (t1 : shT) (x1 : Nat → Int32) (sw1 : List va_E), f + k = 121 → k ≤ p → p ≤ n → Y = pAll T n f k p rd → x1 0 = nI p → Rel t1 rd → shOk t1 → wt 1 (reF T n x1) sw1 → wt 8 (shF 8 t1) sw1 → fr sw sw1 → gv_M ε (d + 5) m_X3_read sw.length Qs 11 [some (.ref 1), some (.ref 8), some (.int (nI k))] [] sw1 0 0 := by
    intro f
    induction f with
    | zero => intro k p rd t1 x1 sw1 hf hkp hpn; omega
    | succ f ih =>
      intro k p rd t1 x1 sw1 hf hkp hpn hY1 hx1 hR1 ho1 w1 w8 f1
      have h3 : sw1[1]? = some (.inr (3, [.ref 2, .int (nI n), .int (x1 0), .int (x1 1), .int (x1 2), .int (x1 3)])) := w1.at 0 rfl
      rw [pAll_s] at hY1
      refine t_X3_read_11 (t_X3_read_12 (t_X3_read_14N (by omega) (by omega) (fun h => absurd h (by omega)) (fun h => ?_)))
      refine t_X3_read_17 (t_X3_read_18 h3 (Nat.le_of_ble_eq_true rfl) (sp_X3_advance p w1 hT hx1 hpn (fun k' v' sw2 hk' w2 m2 => ?_)))
      have w9 := w8.keep m2 rfl
      have h3 : sw2[1]? = some (.inr (3, [.ref 2, .int (nI n), .int (nI (tkN T n p)), .int (nI (bl T n p)), .int k', .int v'])) := w2.at 0 rfl
      refine t_X3_read_21 (t_X3_read_22 h3 rfl (t_X3_read_25 (t_X3_read_26 (fun y => ?_) (fun y => ?_))))
      · have hne : ¬ tkC T n p = 3000 := fun e => y ((kd_end hk').mpr e)
        rw [if_neg hne] at hY1
        have hin := pItem_in (T := T) (rd := rd) hpn
        have hprog : p < tkN T n p := by
          refine (tkN_ok hpn).2.2 ?_
          have := (bl_ok (T := T) hpn).2.1
          have : bl T n p ≠ n := fun e => hne ((tkC_end hpn hT.2).mpr e)
          omega
        refine t_X3_read_31 (t_X3_read_32 (t_X3_read_33 h3 (Nat.le_of_ble_eq_true rfl) (sp_X3_readItem (rd := rd) p k' v' w2 hk' w9 hT hpn hR1 ho1 (fun x3 t3 sw3 a b c e g i => ?_))))
        have h3 : sw3[1]? = some (.inr (3, [.ref 2, .int (nI n), .int (x3 0), .int (x3 1), .int (x3 2), .int (x3 3)])) := e.at 0 rfl
        by_cases hok : (pItem T n p rd).1 = true
        · rw [if_pos hok] at hY1 ⊢
          refine t_X3_read_36 (fun _ => ?_) (fun h => absurd h (by decide))
          refine t_X3_read_42N (t_X3_read_45 (?_))
          exact ih (k + 1) (pItem T n p rd).2.2.1 _ t3 x3 sw3 (by omega) (Nat.le_trans (by omega) hin.1) hin.2.1 hY1 a (c hok).1 (c hok).2 e g ((f1.tr (fr.s1 m2)).tr i)
        · rw [if_neg hok] at hY1 ⊢
          refine t_X3_read_36 (fun h => absurd rfl h) (fun _ => ?_)
          refine t_X3_read_39 (t_X3_read_48 (t_X3_read_50 (t_X3_read_51 h3 rfl (t_X3_read_54 (t_X3_read_55 ?_)))))
          rw [b]
          have := h0 (by rw [hY1]; exact Bool.false_ne_true) (by rw [hY1]; exact Nat.le_trans hin.2.2 hn) x3 t3 sw3 e g ((f1.tr (fr.s1 m2)).tr i)
          rw [hY1] at this
          exact this
      · rw [if_pos ((kd_end hk').mp y)] at hY1
        refine t_X3_read_29 (t_X3_read_30 ?_)
        have := h1 (by rw [hY1]) (by rw [hY1]; show k ≤ 120; omega) _ t1 sw2 (by rw [hY1]; exact hR1) ho1 w2 w9 (f1.tr (fr.s1 m2))
        rw [hY1] at this
        exact this
  have h4 : sw[8]? = some (.inr (4, [.ref (8 + 1), .ref (8 + 2), .ref (8 + 3), .ref (8 + 4), .int (nI t.2.2.2.2)])) := h8.at 0 rfl
  refine gv_S.go rfl ?_
  refine t_X3_read_0 (t_X3_read_1 h4 (Nat.le_of_ble_eq_true rfl) (sp_X4_reset h8 (fun t1 sw1 hR1 ho1 w8 m1 => ?_)))
  have w1 := hw.keep m1 rfl
  have h3 : sw1[1]? = some (.inr (3, [.ref 2, .int (nI n), .int (x 0), .int (x 1), .int (x 2), .int (x 3)])) := w1.at 0 rfl
  refine t_X3_read_4 (t_X3_read_5 (t_X3_read_6 h3 rfl (t_X3_read_9 (t_X3_read_10 (?_)))))
  have w2 : wt 1 (reF T n (x4 (nI 0) (x 1) (x 2) (x 3))) _ := w1.set 0 (.inr (3, [.ref 2, .int (nI n), .int (nI 0), .int (x 1), .int (x 2), .int (x 3)])) rfl
  have m2 : same 1 2 sw1 _ := same.set 1 (.inr (3, [.ref 2, .int (nI n), .int (nI 0), .int (x 1), .int (x 2), .int (x 3)])) rfl
  exact loop 121 0 0 rd0 t1 (x4 (nI 0) (x 1) (x 2) (x 3)) _ (by decide) (Nat.le_refl _) (Nat.zero_le _) hY.symm rfl (hR1.cong hr0) ho1 w2 (w8.keep m2 rfl) ((fr.s8 m1).tr (fr.s1 m2))
end S3
theorem neg10 : ∀ q, q < 121 → ¬ (0 ≤ (-10 : Int32) - nI q) := by decide +kernel
section S7
variable {ε : gv_E} {d : Nat} {Qs : Option Value → List va_E → Prop} {sw sw' : List va_E} {s dr i0 i1 : shT} {T : Nat → Nat} {n : Nat} {x : Nat → Int32} {K P W : Nat → Nat} {kn sk : Nat} {ln nu fl : Nat → Nat}
theorem clW.fr {x' : Nat → Int32} {t' : shT} (h : clW s dr i0 i1 T n x K P W kn sk ln nu fl sw) (h1 : wt 1 (reF T n x') sw') (h2 : wt 8 (shF 8 t') sw') (hs : fr sw sw') : clW s (t') i0 i1 T n (x') K P W kn sk ln nu fl sw' := by
  obtain ⟨a0, a1, a2, a3, a4, a5, ⟨f, f0, f1, a6⟩, ⟨J0, A, lt, co, b2, b3, b4⟩, a8, a9⟩ := h
  exact ⟨a0.keepF hs (Or.inl (Nat.le_refl _)), h1, a2.keepF hs (Or.inr (Or.inl ⟨Nat.le_refl _, Nat.le_refl _⟩)), h2, a4.keepF hs (by omega), a5.keepF hs (by omega), ⟨f, f0, f1, a6.keepF hs (by omega)⟩, ⟨J0, A, lt, co, b2.keepF hs (by omega), b3.keepF hs (by omega), b4.keepF hs (by omega)⟩, a8.keepF hs (by omega), a9.keepF hs (by omega)⟩
theorem fr.sm (hs : fr sw sw') : same 0 44 sw sw' := ⟨hs.1, fun q hq => hs.2 q (by omega)⟩
theorem sp_X7_page {rd0 : Nat → Nat} (hr0 : ∀ i, i < 58 → rd0 i = bgR i) (hC : clW s dr i0 i1 T n x K P W kn sk ln nu fl sw) (hT : txOk T n) (h0 : ¬ (pAll T n 121 0 0 rd0).1 = true → ∀ x' t' sw', clW s (t') i0 i1 T n (x') K P W kn sk ln nu fl sw' → same 0 44 sw sw' → Qs (some (.int (-10 - nI (pAll T n 121 0 0 rd0).2.1))) sw') (h1 : (pAll T n 121 0 0 rd0).1 = true → ∀ s' x' t' fl' sw', Rel s' (pAll T n 121 0 0 rd0).2.2 → shOk s' → fl' 0 = 0 → fl' 1 = 0 → clW (s') (t') i0 i1 T (0) (x') K P W (0) (0) ln nu (fl') sw' → same 0 44 sw sw' → Qs (some (.int (nI (pAll T n 121 0 0 rd0).2.1))) sw') : gv_S ε (d + 6) m_X7_page [.ref 0] sw Qs := by
  have h7 := hC.h7
  have h3 := hC.h3
  refine gv_S.go rfl ?_
  refine t_X7_page_0 (t_X7_page_1 h7 rfl (t_X7_page_4 (t_X7_page_5 h7 rfl (t_X7_page_8 h3 (Nat.le_of_ble_eq_true rfl) (sp_X3_read hr0 hC.2.1 hC.2.2.2.1 hT (fun hy hle x' t' sw1 hR ho w1 w8 f1 => ?_) (fun hy hle x' t' sw1 w1 w8 f1 => ?_))))))
  · have hC1 := hC.fr w1 w8 f1
    have h7 := hC1.h7
    have h4 := hC1.h4
    generalize pAll T n 121 0 0 rd0 = Y at h0 h1 hy hle hR ⊢
    refine t_X7_page_11 (t_X7_page_12 (t_X7_page_13 (fun _ => ?_) (fun h => absurd (nI_le (Nat.zero_le _) (by omega)) h)))
    refine t_X7_page_18 (t_X7_page_19 h7 rfl (t_X7_page_22 (t_X7_page_23 h7 rfl (t_X7_page_26 h4 (Nat.le_of_ble_eq_true rfl) (sp_X4_become hC1.2.2.1 hC1.2.2.2.1 (by decide) (fun sw2 w2 m2 => ?_))))))
    have hC2 := hC1.sh w2 m2
    have h7 := hC2.h7
    have h3 := hC2.h3
    refine t_X7_page_29 (t_X7_page_30 h7 rfl (t_X7_page_33 (t_X7_page_34 h3 rfl (?_))))
    have w3 : wt 1 (reF T 0 x') _ := hC2.2.1.set 0 (.inr (3, [.ref 2, .int (nI 0), .int (x' 0), .int (x' 1), .int (x' 2), .int (x' 3)])) rfl
    have m3 : same 1 2 sw2 _ := same.set 1 (.inr (3, [.ref 2, .int (nI 0), .int (x' 0), .int (x' 1), .int (x' 2), .int (x' 3)])) rfl
    show gv_M ε (d + 6) m_X7_page sw.length Qs 37 _ _ (List.set sw2 (1 + 0) (.inr (3, [.ref 2, .int (nI 0), .int (x' 0), .int (x' 1), .int (x' 2), .int (x' 3)]))) 0 0
    generalize List.set sw2 _ _ = sw3 at w3 m3 ⊢
    have hC3 := hC2.re w3 m3
    have h7 := hC3.h7
    have h2 := hC3.h2
    refine t_X7_page_37 (t_X7_page_38 h7 rfl (t_X7_page_41 (t_X7_page_42 h2 rfl (?_))))
    have w4 : wt 13 (deF K P W 0) _ := hC3.2.2.2.2.1.set 0 (.inr (2, [.ref 14, .ref 15, .ref 16, .int (nI 0)])) rfl
    have m4 : same 13 4 sw3 _ := same.set 13 (.inr (2, [.ref 14, .ref 15, .ref 16, .int (nI 0)])) rfl
    show gv_M ε (d + 6) m_X7_page sw.length Qs 45 _ _ (List.set sw3 (13 + 0) (.inr (2, [.ref 14, .ref 15, .ref 16, .int (nI 0)]))) 0 0
    generalize List.set sw3 _ _ = sw4 at w4 m4 ⊢
    have hC4 := hC3.de w4 m4
    have h7 := hC4.h7
    have h5 := hC4.h5
    refine t_X7_page_45 (t_X7_page_46 h7 rfl (t_X7_page_49 (t_X7_page_50 h5 rfl (?_))))
    have w5 : wt 17 (siF 0 ln nu) _ := hC4.2.2.2.2.2.1.set 0 (.inr (5, [.ref 18, .ref 19, .int (nI 0)])) rfl
    have m5 : same 17 3 sw4 _ := same.set 17 (.inr (5, [.ref 18, .ref 19, .int (nI 0)])) rfl
    show gv_M ε (d + 6) m_X7_page sw.length Qs 53 _ _ (List.set sw4 (17 + 0) (.inr (5, [.ref 18, .ref 19, .int (nI 0)]))) 0 0
    generalize List.set sw4 _ _ = sw5 at w5 m5 ⊢
    have hC5 := hC4.si w5 m5
    have step : ∀ (i : Nat) (fl1 : Nat → Nat) (sw6 : List va_E), i < 2 → clW (shCp t' s) (t') i0 i1 T (0) (x') K P W (0) (0) ln nu (fl1) sw6 → (∀ sw7, clW (shCp t' s) (t') i0 i1 T (0) (x') K P W (0) (0) ln nu (up fl1 i 0) sw7 → same 0 44 sw6 sw7 → gv_M ε (d + 6) m_X7_page sw.length Qs 55 [some (.ref 0), some (.int (nI Y.2.1)), some (.int (nI (i + 1)))] [] sw7 0 0) → gv_M ε (d + 6) m_X7_page sw.length Qs 55 [some (.ref 0), some (.int (nI Y.2.1)), some (.int (nI i))] [] sw6 0 0 := by
      intro i fl1 sw6 hi hC6 kk
      obtain ⟨f, f0, f1, hI⟩ := id hC6.2.2.2.2.2.2.1
      have hB : sw6[21]? = some (.inl (1, 2, .inl (fun i => nI (fl1 i)))) := hI.at 1 rfl
      have h7 := hC6.h7
      refine t_X7_page_55 (t_X7_page_56 (t_X7_page_57N (by omega) (by omega) (fun h => absurd h (by omega)) (fun h => ?_)))
      refine t_X7_page_60 (t_X7_page_61 h7 rfl (t_X7_page_64 (t_X7_page_65 (t_X7_page_66 hB (vp_in_nI hi (by decide)) (t_X7_page_67N (t_X7_page_70 (?_)))))))
      rw [nar0, nI_clamp (by omega), nI_set]
      exact kk _ (hC6.im ⟨f, f0, f1, hI.set 1 (.inl (1, 2, .inl (fun k => nI (if k = i then 0 else fl1 k)))) rfl⟩ (same.set 21 _ rfl)) (same.set 21 _ rfl)
    refine t_X7_page_53 (t_X7_page_54 (?_))
    refine step 0 fl sw5 (by decide) hC5 (fun sw6 hC6 m6 => step 1 _ sw6 (by decide) hC6 (fun sw7 hC7 m7 => ?_))
    refine t_X7_page_55 (t_X7_page_56 (t_X7_page_57N (by omega) (by omega) (fun h => ?_) (fun h => absurd h (by omega))))
    refine t_X7_page_73 (t_X7_page_74 ?_)
    exact h1 hy (shCp t' s) x' t' _ sw7 (Rel_cp hR ho) (shOk_cp ho) rfl rfl hC7 (((((((fr.sm f1).tr (m2.wide (by decide) (by decide))).tr (m3.wide (by decide) (by decide))).tr (m4.wide (by decide) (by decide))).tr (m5.wide (by decide) (by decide))).tr m6).tr m7)
  · have hC1 := hC.fr w1 w8 f1
    refine t_X7_page_11 (t_X7_page_12 (t_X7_page_13 (fun h => absurd h (neg10 _ (by omega))) (fun _ => ?_)))
    refine t_X7_page_16 (t_X7_page_17 ?_)
    exact h0 hy x' t' sw1 hC1 (fr.sm f1)
end S7
