/-! what changes a sheet, and deeds -/
theorem gv_rmok {d : Nat} {M : gv_MR} : 1 ≤ (gv_rm (d + 1) M).frames ∧ 41 ≤ (gv_rm (d + 1) M).locals := ⟨Nat.le_add_left 1 d, by show 41 ≤ 41 * (d + 1); omega⟩
theorem cpyN (f g : Nat → Nat) {a b m : Int32} {a' b' m' : Nat} (ha : a.toNatClampNeg = a') (hb : b.toNatClampNeg = b') (hm : m.toNatClampNeg = m') : va_cpy (fun i => nI (f i)) (fun i => nI (g i)) a.toNatClampNeg b.toNatClampNeg m.toNatClampNeg = fun i => nI (va_cpy f g a' b' m' i) := by
  rw [ha, hb, hm]
  funext i
  unfold va_cpy
  split <;> rfl
theorem cpy_in (f g : Nat → Nat) {m i : Nat} (h : i < m) : va_cpy f g 0 0 m i = f i := by
  unfold va_cpy
  rw [if_pos (by omega)]
  congr 1
  omega
theorem same.setb {b n : Nat} {sw : List va_E} (k : Nat) (x : va_E) (h : Nat.ble (k + 1) n = true) : same b n sw (sw.set (b + k) x) := by
  rw [Nat.ble_eq] at h
  exact ⟨List.length_set, fun p hp => List.getElem?_set_ne (by omega)⟩
theorem wt.keepP {b b' n : Nat} {l sw sw' : List va_E} (h : wt b' l sw) (hs : same b n sw sw') (hd : b' + l.length ≤ b ∨ b + n ≤ b') : wt b' l sw' := by
  intro k e he
  have hk : k < l.length := (List.getElem?_eq_some_iff.mp he).1
  rw [hs.2 _ (by omega)]
  exact h k e he
theorem nI_gt0 {m : Nat} (h : m < 2 ^ 31) : 0 < nI m ↔ 0 < m := by
  rw [Int32.lt_iff_toInt_lt, nI_toInt h, Int32.toInt_zero]
  omega
theorem nI_le0 {m : Nat} (h : m < 2 ^ 31) : nI m ≤ 0 ↔ m = 0 := by
  rw [Int32.le_iff_toInt_le, nI_toInt h, Int32.toInt_zero]
  omega
def up (r : Nat → Nat) (j v : Nat) : Nat → Nat := fun i => if i = j then v else r i
theorem up_at (r : Nat → Nat) (j v : Nat) : up r j v j = v := if_pos rfl
theorem up_ne {r : Nat → Nat} {j v i : Nat} (h : i ≠ j) : up r j v i = r i := if_neg h
def shBeg (s : shT) : shT := (s.1, s.2.1, up s.2.2.1 s.2.2.2.2 0, s.2.2.2.1, s.2.2.2.2 + 1)
def shApp (s : shT) (l g : Nat) : shT := (s.1, s.2.1, up s.2.2.1 l (s.2.2.1 l + 1), up s.2.2.2.1 (8 * l + s.2.2.1 l) g, s.2.2.2.2)
def shCh (s : shT) (l : Nat) : shT := (s.1, s.2.1, up s.2.2.1 l (s.2.2.1 l - 1), s.2.2.2.1, s.2.2.2.2)
def shDrop (s : shT) : shT := (s.1, s.2.1, s.2.2.1, s.2.2.2.1, s.2.2.2.2 - 1)
def shSet (s : shT) (p w : Nat) : shT := (up s.1 p w, s.2.1, s.2.2.1, s.2.2.2.1, s.2.2.2.2)
def shDraw (s : shT) (p w : Nat) : shT := (s.1, up s.2.1 p w, s.2.2.1, s.2.2.2.1, s.2.2.2.2)
def shCp (s t : shT) : shT := (va_cpy s.1 t.1 0 0 3, va_cpy s.2.1 t.2.1 0 0 18, va_cpy s.2.2.1 t.2.2.1 0 0 4, va_cpy s.2.2.2.1 t.2.2.2.1 0 0 32, s.2.2.2.2)
def rgOk (p w : Nat) : Prop := (p = 0 ∧ w ≤ 4) ∨ (p = 1 ∧ w ≤ 9) ∨ (p = 2 ∧ 1 ≤ w ∧ w ≤ 72)
def vdS (k p w : Nat) (s : shT) : Prop := (k = 0 ∧ p < 18 ∧ w ≤ 255) ∨ (k = 1 ∧ p < s.2.2.2.2 ∧ 0 < s.2.2.1 p) ∨ (k = 2 ∧ 0 < s.2.2.2.2) ∨ (k = 3 ∧ p < s.2.2.2.2 ∧ s.2.2.1 p < 8 ∧ w ≤ 6) ∨ (k = 4 ∧ rgOk p w)
def tbS (k p w : Nat) (s : shT) : shT := match k with
  | 0 => shDraw s p w
  | 1 => shCh s p
  | 2 => shDrop s
  | 3 => shApp s p w
  | _ => shSet s p w
section S4
variable {ε : gv_E} {d : Nat} {Qs : Option Value → List va_E → Prop} {sw : List va_E} {b : Nat} {s : shT}
theorem sp_X4_begin (hw : wt b (shF b s) sw) (hn : s.2.2.2.2 ≤ 4) (h0 : s.2.2.2.2 = 4 → Qs (some (.int (nI 0))) sw) (h1 : s.2.2.2.2 < 4 → ∀ sw', wt b (shF b (shBeg s)) sw' → same b 5 sw sw' → Qs (some (.int (nI 1))) sw') : gv_S ε d m_X4_begin [.ref b] sw Qs := by
  have h4 : sw[b]? = some (.inr (4, [.ref (b + 1), .ref (b + 2), .ref (b + 3), .ref (b + 4), .int (nI s.2.2.2.2)])) := hw.at 0 rfl
  have hln : sw[b + 3]? = some (.inl (0, 4, .inl (fun i => nI (s.2.2.1 i)))) := hw.at 3 rfl
  refine gv_S.go rfl ?_
  refine t_X4_begin_0 (t_X4_begin_1 h4 rfl (t_X4_begin_4 (t_X4_begin_5N (by omega) (by omega) (fun h => ?_) (fun h => ?_))))
  · refine t_X4_begin_10 (t_X4_begin_11 h4 rfl (t_X4_begin_14 (t_X4_begin_15 h4 rfl (t_X4_begin_18 (t_X4_begin_19 hln s.2.2.2.2 h rfl (by decide) (?_))))))
    rw [nI_set]
    have w2 : wt b (shF b (s.1, s.2.1, up s.2.2.1 s.2.2.2.2 0, s.2.2.2.1, s.2.2.2.2)) _ := hw.set 3 (.inl (0, 4, .inl (fun i => nI (if i = s.2.2.2.2 then 0 else s.2.2.1 i)))) rfl
    have m2 : same b 5 sw _ := same.setb 3 (.inl (0, 4, .inl (fun i => nI (if i = s.2.2.2.2 then 0 else s.2.2.1 i)))) rfl
    generalize List.set sw _ _ = sw2 at w2 m2 ⊢
    have k4 : sw2[b]? = some (.inr (4, [.ref (b + 1), .ref (b + 2), .ref (b + 3), .ref (b + 4), .int (nI s.2.2.2.2)])) := w2.at 0 rfl
    refine t_X4_begin_20 (t_X4_begin_21 rfl (t_X4_begin_22 k4 rfl (t_X4_begin_25 (t_X4_begin_26N (t_X4_begin_27 k4 rfl (t_X4_begin_30 (t_X4_begin_31 rfl ?_)))))))
    exact h1 h _ (w2.set 0 _ rfl) (m2.tr (same.setb 0 _ rfl))
  · refine t_X4_begin_8 (t_X4_begin_9 rfl ?_)
    exact h0 (by omega)
theorem sp_X4_dropLast (hw : wt b (shF b s) sw) (hn : s.2.2.2.2 ≤ 4) (h0 : 0 < s.2.2.2.2) (h1 : ∀ sw', wt b (shF b (shDrop s)) sw' → same b 5 sw sw' → Qs none sw') : gv_S ε d m_X4_dropLast [.ref b] sw Qs := by
  have h4 : sw[b]? = some (.inr (4, [.ref (b + 1), .ref (b + 2), .ref (b + 3), .ref (b + 4), .int (nI s.2.2.2.2)])) := hw.at 0 rfl
  refine gv_S.go rfl ?_
  refine t_X4_dropLast_0 (t_X4_dropLast_1 h4 rfl (t_X4_dropLast_4 (fun h => absurd ((nI_le0 (by omega)).mp h) (by omega)) (fun h => ?_)))
  refine t_X4_dropLast_7 (t_X4_dropLast_8 rfl (t_X4_dropLast_9 h4 rfl (t_X4_dropLast_12 (t_X4_dropLast_13N (by omega) (t_X4_dropLast_14 h4 rfl (t_X4_dropLast_17 (Nat.le_refl _) ?_))))))
  exact h1 _ (hw.set 0 _ rfl) (same.setb 0 _ rfl)
theorem sp_X4_append (l g : Nat) (hw : wt b (shF b s) sw) (hn : s.2.2.2.2 ≤ 4) (hl : l < s.2.2.2.2) (hlen : s.2.2.1 l ≤ 8) (h0 : s.2.2.1 l = 8 → Qs (some (.int (nI 0))) sw) (h1 : s.2.2.1 l < 8 → ∀ sw', wt b (shF b (shApp s l g)) sw' → same b 5 sw sw' → Qs (some (.int (nI 1))) sw') : gv_S ε (d + 1) m_X4_append [.ref b, .int (nI l), .int (nI g)] sw Qs := by
  have h4 : sw[b]? = some (.inr (4, [.ref (b + 1), .ref (b + 2), .ref (b + 3), .ref (b + 4), .int (nI s.2.2.2.2)])) := hw.at 0 rfl
  have hln : sw[b + 3]? = some (.inl (0, 4, .inl (fun i => nI (s.2.2.1 i)))) := hw.at 3 rfl
  have hsg : sw[b + 4]? = some (.inl (0, 32, .inl (fun i => nI (s.2.2.2.1 i)))) := hw.at 4 rfl
  refine gv_S.go rfl ?_
  refine t_X4_append_0 (t_X4_append_1 (t_X4_append_2 h4 (Nat.le_of_ble_eq_true rfl) (sp_X4_hasLine (nI l) hw hn (fun j hj e => ?_) (fun h => absurd rfl (h l hl)))))
  refine t_X4_append_5 (fun h => absurd h (by decide)) (fun _ => ?_)
  refine t_X4_append_8 (t_X4_append_9 h4 rfl (t_X4_append_12 (t_X4_append_13 hln l (by omega) rfl (by decide) (t_X4_append_14 (t_X4_append_16N (by omega) (by omega) (fun h => ?_) (fun h => ?_))))))
  · refine t_X4_append_21 (t_X4_append_22 h4 rfl (t_X4_append_25 (t_X4_append_26 (t_X4_append_28N (t_X4_append_29 (t_X4_append_30 h4 rfl (t_X4_append_33 (t_X4_append_34 hln l (by omega) rfl (by decide) (t_X4_append_35N (t_X4_append_36 (t_X4_append_37 hsg (8 * l + s.2.2.1 l) (by omega) (by rw [Nat.mul_comm]) (by decide) (?_))))))))))))
    rw [nI_set]
    have w2 : wt b (shF b (s.1, s.2.1, s.2.2.1, up s.2.2.2.1 (8 * l + s.2.2.1 l) g, s.2.2.2.2)) _ := hw.set 4 (.inl (0, 32, .inl (fun i => nI (if i = 8 * l + s.2.2.1 l then g else s.2.2.2.1 i)))) rfl
    have m2 : same b 5 sw _ := same.setb 4 (.inl (0, 32, .inl (fun i => nI (if i = 8 * l + s.2.2.1 l then g else s.2.2.2.1 i)))) rfl
    generalize List.set sw _ _ = sw2 at w2 m2 ⊢
    have k4 : sw2[b]? = some (.inr (4, [.ref (b + 1), .ref (b + 2), .ref (b + 3), .ref (b + 4), .int (nI s.2.2.2.2)])) := w2.at 0 rfl
    have kln : sw2[b + 3]? = some (.inl (0, 4, .inl (fun i => nI (s.2.2.1 i)))) := w2.at 3 rfl
    refine t_X4_append_38 (t_X4_append_39 k4 rfl (t_X4_append_42 (t_X4_append_43 rfl rfl (t_X4_append_44 kln l (by omega) rfl (by decide) (t_X4_append_45 (t_X4_append_46N (t_X4_append_47 kln l (by omega) rfl (by decide) (?_))))))))
    rw [nI_set]
    have w3 : wt b (shF b (shApp s l g)) _ := w2.set 3 (.inl (0, 4, .inl (fun i => nI (if i = l then s.2.2.1 l + 1 else s.2.2.1 i)))) rfl
    have m3 : same b 5 sw2 _ := same.setb 3 (.inl (0, 4, .inl (fun i => nI (if i = l then s.2.2.1 l + 1 else s.2.2.1 i)))) rfl
    generalize List.set sw2 _ _ = sw3 at w3 m3 ⊢
    refine t_X4_append_48 (t_X4_append_49 rfl ?_)
    exact h1 h _ w3 (m2.tr m3)
  · refine t_X4_append_19 (t_X4_append_20 rfl ?_)
    exact h0 (by omega)
theorem sp_X4_chop (l : Nat) (hw : wt b (shF b s) sw) (hn : s.2.2.2.2 ≤ 4) (hl : l < s.2.2.2.2) (hlen : s.2.2.1 l ≤ 8) (h0 : s.2.2.1 l = 0 → Qs (some (.int (-9))) sw) (h1 : 0 < s.2.2.1 l → ∀ sw', wt b (shF b (shCh s l)) sw' → same b 5 sw sw' → Qs (some (.int (nI (s.2.2.2.1 (8 * l + (s.2.2.1 l - 1)))))) sw') : gv_S ε (d + 1) m_X4_chop [.ref b, .int (nI l)] sw Qs := by
  have h4 : sw[b]? = some (.inr (4, [.ref (b + 1), .ref (b + 2), .ref (b + 3), .ref (b + 4), .int (nI s.2.2.2.2)])) := hw.at 0 rfl
  have hln : sw[b + 3]? = some (.inl (0, 4, .inl (fun i => nI (s.2.2.1 i)))) := hw.at 3 rfl
  refine gv_S.go rfl ?_
  refine t_X4_chop_0 (t_X4_chop_1 (t_X4_chop_2 h4 (Nat.le_of_ble_eq_true rfl) (sp_X4_hasLine (nI l) hw hn (fun j hj e => ?_) (fun h => absurd rfl (h l hl)))))
  refine t_X4_chop_5 (fun h => absurd h (by decide)) (fun _ => ?_)
  refine t_X4_chop_8 (t_X4_chop_9 h4 rfl (t_X4_chop_12 (t_X4_chop_13 hln l (by omega) rfl (by decide) (t_X4_chop_14 (fun h => ?_) (fun h => ?_)))))
  · rw [nI_gt0 (by omega)] at h
    refine t_X4_chop_20 (t_X4_chop_21 h4 rfl (t_X4_chop_24 (t_X4_chop_25 rfl rfl (t_X4_chop_26 hln l (by omega) rfl (by decide) (t_X4_chop_27 (t_X4_chop_28N (by omega) (t_X4_chop_29 hln l (by omega) rfl (by decide) (?_))))))))
    rw [nI_set]
    have w2 : wt b (shF b (shCh s l)) _ := hw.set 3 (.inl (0, 4, .inl (fun i => nI (if i = l then s.2.2.1 l - 1 else s.2.2.1 i)))) rfl
    have m2 : same b 5 sw _ := same.setb 3 (.inl (0, 4, .inl (fun i => nI (if i = l then s.2.2.1 l - 1 else s.2.2.1 i)))) rfl
    generalize List.set sw _ _ = sw2 at w2 m2 ⊢
    have k4 : sw2[b]? = some (.inr (4, [.ref (b + 1), .ref (b + 2), .ref (b + 3), .ref (b + 4), .int (nI s.2.2.2.2)])) := w2.at 0 rfl
    have kln : sw2[b + 3]? = some (.inl (0, 4, .inl (fun i => nI (up s.2.2.1 l (s.2.2.1 l - 1) i)))) := w2.at 3 rfl
    have ksg : sw2[b + 4]? = some (.inl (0, 32, .inl (fun i => nI (s.2.2.2.1 i)))) := w2.at 4 rfl
    refine t_X4_chop_30 (t_X4_chop_31 k4 rfl (t_X4_chop_34 (t_X4_chop_35 (t_X4_chop_37N (t_X4_chop_38 (t_X4_chop_39 k4 rfl (t_X4_chop_42 (t_X4_chop_43 kln l (by omega) rfl (by decide) (?_)))))))))
    rw [up_at]
    refine t_X4_chop_44N (t_X4_chop_45 ksg (8 * l + (s.2.2.1 l - 1)) (by omega) (by rw [Nat.mul_comm]) (by decide) (t_X4_chop_46 ?_))
    exact h1 h _ w2 m2
  · rw [nI_gt0 (by omega)] at h
    refine t_X4_chop_17 (t_X4_chop_19 ?_)
    exact h0 (by omega)
theorem sp_X4_become {c : Nat} {t : shT} (hw : wt b (shF b t) sw) (hc : wt c (shF c s) sw) (hd : b + 5 ≤ c ∨ c + 5 ≤ b) (h1 : ∀ sw', wt b (shF b (shCp s t)) sw' → same b 5 sw sw' → Qs none sw') : gv_S ε (d + 1) m_X4_become [.ref b, .ref c] sw Qs := by
  have hd' : c + (shF c s).length ≤ b ∨ b + 5 ≤ c := hd.symm
  have h4 : sw[b]? = some (.inr (4, [.ref (b + 1), .ref (b + 2), .ref (b + 3), .ref (b + 4), .int (nI t.2.2.2.2)])) := hw.at 0 rfl
  have c4 : sw[c]? = some (.inr (4, [.ref (c + 1), .ref (c + 2), .ref (c + 3), .ref (c + 4), .int (nI s.2.2.2.2)])) := hc.at 0 rfl
  have a1 : sw[b + 1]? = some (.inl (0, 3, .inl (fun i => nI (t.1 i)))) := hw.at 1 rfl
  have b1 : sw[c + 1]? = some (.inl (0, 3, .inl (fun i => nI (s.1 i)))) := hc.at 1 rfl
  refine gv_S.go rfl ?_
  refine t_X4_become_0 (t_X4_become_1 c4 rfl (t_X4_become_4 (t_X4_become_5 (t_X4_become_6 h4 rfl (t_X4_become_9 (t_X4_become_10 (t_X4_become_11 b1 a1 (by decide) (by decide) (by decide) (by decide) (by decide) gv_rmok (Nat.le_of_ble_eq_true rfl) (?_))))))))
  rw [cpyN _ _ (a' := 0) (b' := 0) (m' := 3) (by decide) (by decide) (by decide)]
  have w1 : wt b (shF b (va_cpy s.1 t.1 0 0 3, t.2.1, t.2.2.1, t.2.2.2.1, t.2.2.2.2)) _ := hw.set 1 (.inl (0, 3, .inl (fun i => nI (va_cpy s.1 t.1 0 0 3 i)))) rfl
  have m1 : same b 5 sw _ := same.setb 1 (.inl (0, 3, .inl (fun i => nI (va_cpy s.1 t.1 0 0 3 i)))) rfl
  generalize List.set sw _ _ = sw1 at w1 m1 ⊢
  have hc1 := hc.keepP m1 hd'
  have h4 : sw1[b]? = some (.inr (4, [.ref (b + 1), .ref (b + 2), .ref (b + 3), .ref (b + 4), .int (nI t.2.2.2.2)])) := w1.at 0 rfl
  have c4 : sw1[c]? = some (.inr (4, [.ref (c + 1), .ref (c + 2), .ref (c + 3), .ref (c + 4), .int (nI s.2.2.2.2)])) := hc1.at 0 rfl
  have a1 : sw1[b + 2]? = some (.inl (0, 18, .inl (fun i => nI (t.2.1 i)))) := w1.at 2 rfl
  have b1 : sw1[c + 2]? = some (.inl (0, 18, .inl (fun i => nI (s.2.1 i)))) := hc1.at 2 rfl
  refine t_X4_become_14 (t_X4_become_15 c4 rfl (t_X4_become_18 (t_X4_become_19 (t_X4_become_20 h4 rfl (t_X4_become_23 (t_X4_become_24 (t_X4_become_26 b1 a1 (by decide) (by decide) (by decide) (by decide) (by decide) gv_rmok (Nat.le_of_ble_eq_true rfl) (?_))))))))
  rw [cpyN _ _ (a' := 0) (b' := 0) (m' := 18) (by decide) (by decide) (by decide)]
  have w2 : wt b (shF b (va_cpy s.1 t.1 0 0 3, va_cpy s.2.1 t.2.1 0 0 18, t.2.2.1, t.2.2.2.1, t.2.2.2.2)) _ := w1.set 2 (.inl (0, 18, .inl (fun i => nI (va_cpy s.2.1 t.2.1 0 0 18 i)))) rfl
  have m2 : same b 5 sw1 _ := same.setb 2 (.inl (0, 18, .inl (fun i => nI (va_cpy s.2.1 t.2.1 0 0 18 i)))) rfl
  generalize List.set sw1 _ _ = sw2 at w2 m2 ⊢
  have hc2 := hc1.keepP m2 hd'
  have h4 : sw2[b]? = some (.inr (4, [.ref (b + 1), .ref (b + 2), .ref (b + 3), .ref (b + 4), .int (nI t.2.2.2.2)])) := w2.at 0 rfl
  have c4 : sw2[c]? = some (.inr (4, [.ref (c + 1), .ref (c + 2), .ref (c + 3), .ref (c + 4), .int (nI s.2.2.2.2)])) := hc2.at 0 rfl
  have a1 : sw2[b + 3]? = some (.inl (0, 4, .inl (fun i => nI (t.2.2.1 i)))) := w2.at 3 rfl
  have b1 : sw2[c + 3]? = some (.inl (0, 4, .inl (fun i => nI (s.2.2.1 i)))) := hc2.at 3 rfl
  refine t_X4_become_29 (t_X4_become_30 c4 rfl (t_X4_become_33 (t_X4_become_34 (t_X4_become_35 h4 rfl (t_X4_become_38 (t_X4_become_39 (t_X4_become_40 b1 a1 (by decide) (by decide) (by decide) (by decide) (by decide) gv_rmok (Nat.le_of_ble_eq_true rfl) (?_))))))))
  rw [cpyN _ _ (a' := 0) (b' := 0) (m' := 4) (by decide) (by decide) (by decide)]
  have w3 : wt b (shF b (va_cpy s.1 t.1 0 0 3, va_cpy s.2.1 t.2.1 0 0 18, va_cpy s.2.2.1 t.2.2.1 0 0 4, t.2.2.2.1, t.2.2.2.2)) _ := w2.set 3 (.inl (0, 4, .inl (fun i => nI (va_cpy s.2.2.1 t.2.2.1 0 0 4 i)))) rfl
  have m3 : same b 5 sw2 _ := same.setb 3 (.inl (0, 4, .inl (fun i => nI (va_cpy s.2.2.1 t.2.2.1 0 0 4 i)))) rfl
  generalize List.set sw2 _ _ = sw3 at w3 m3 ⊢
  have hc3 := hc2.keepP m3 hd'
  have h4 : sw3[b]? = some (.inr (4, [.ref (b + 1), .ref (b + 2), .ref (b + 3), .ref (b + 4), .int (nI t.2.2.2.2)])) := w3.at 0 rfl
  have c4 : sw3[c]? = some (.inr (4, [.ref (c + 1), .ref (c + 2), .ref (c + 3), .ref (c + 4), .int (nI s.2.2.2.2)])) := hc3.at 0 rfl
  have a1 : sw3[b + 4]? = some (.inl (0, 32, .inl (fun i => nI (t.2.2.2.1 i)))) := w3.at 4 rfl
  have b1 : sw3[c + 4]? = some (.inl (0, 32, .inl (fun i => nI (s.2.2.2.1 i)))) := hc3.at 4 rfl
  refine t_X4_become_43 (t_X4_become_44 c4 rfl (t_X4_become_47 (t_X4_become_48 (t_X4_become_49 h4 rfl (t_X4_become_52 (t_X4_become_53 (t_X4_become_55 b1 a1 (by decide) (by decide) (by decide) (by decide) (by decide) gv_rmok (Nat.le_of_ble_eq_true rfl) (?_))))))))
  rw [cpyN _ _ (a' := 0) (b' := 0) (m' := 32) (by decide) (by decide) (by decide)]
  have w4 : wt b (shF b (va_cpy s.1 t.1 0 0 3, va_cpy s.2.1 t.2.1 0 0 18, va_cpy s.2.2.1 t.2.2.1 0 0 4, va_cpy s.2.2.2.1 t.2.2.2.1 0 0 32, t.2.2.2.2)) _ := w3.set 4 (.inl (0, 32, .inl (fun i => nI (va_cpy s.2.2.2.1 t.2.2.2.1 0 0 32 i)))) rfl
  have m4 : same b 5 sw3 _ := same.setb 4 (.inl (0, 32, .inl (fun i => nI (va_cpy s.2.2.2.1 t.2.2.2.1 0 0 32 i)))) rfl
  generalize List.set sw3 _ _ = sw4 at w4 m4 ⊢
  have hc4 := hc3.keepP m4 hd'
  have h4 : sw4[b]? = some (.inr (4, [.ref (b + 1), .ref (b + 2), .ref (b + 3), .ref (b + 4), .int (nI t.2.2.2.2)])) := w4.at 0 rfl
  have c4 : sw4[c]? = some (.inr (4, [.ref (c + 1), .ref (c + 2), .ref (c + 3), .ref (c + 4), .int (nI s.2.2.2.2)])) := hc4.at 0 rfl
  refine t_X4_become_58 (t_X4_become_59 (t_X4_become_60 c4 rfl (t_X4_become_63 h4 rfl (t_X4_become_66 (Nat.le_refl _) ?_))))
  exact h1 _ (w4.set 0 _ rfl) ((((m1.tr m2).tr m3).tr m4).tr (same.setb 0 _ rfl))
end S4
/-! deeds -/
def pushD (K P W : Nat → Nat) (kn k p w : Nat) (K' P' W' : Nat → Nat) (kn' : Nat) : Prop := kn' = min (kn + 1) 10 ∧ (K' (kn' - 1) = k ∧ P' (kn' - 1) = p ∧ W' (kn' - 1) = w) ∧ ∀ j, j + 1 < kn' → K' (kn' - 2 - j) = K (kn - 1 - j) ∧ P' (kn' - 2 - j) = P (kn - 1 - j) ∧ W' (kn' - 2 - j) = W (kn - 1 - j)
section S2
variable {ε : gv_E} {d : Nat} {Qs : Option Value → List va_E → Prop} {sw : List va_E} {s : shT} {K P W : Nat → Nat} {kn : Nat}
theorem sp_X2_loseOldest (hw : wt 13 (deF K P W kn) sw) (h1 : ∀ sw', wt 13 (deF (va_cpy K K 1 0 9) (va_cpy P P 1 0 9) (va_cpy W W 1 0 9) 9) sw' → same 13 4 sw sw' → Qs none sw') : gv_S ε (d + 1) m_X2_loseOldest [.ref 13] sw Qs := by
  have h2 : sw[13]? = some (.inr (2, [.ref 14, .ref 15, .ref 16, .int (nI kn)])) := hw.at 0 rfl
  refine gv_S.go rfl ?_
  refine t_X2_loseOldest_0 (t_X2_loseOldest_1 (t_X2_loseOldest_3 h2 rfl (?_)))
  have w1 : wt 13 (deF K P W 9) _ := hw.set 0 (.inr (2, [.ref 14, .ref 15, .ref 16, .int (nI 9)])) rfl
  have m1 : same 13 4 sw _ := same.set 13 (.inr (2, [.ref 14, .ref 15, .ref 16, .int (nI 9)])) rfl
  show gv_M ε (d + 1) m_X2_loseOldest sw.length Qs 6 _ _ (List.set sw (13 + 0) (.inr (2, [.ref 14, .ref 15, .ref 16, .int (nI 9)]))) 0 0
  generalize List.set sw _ _ = sw1 at w1 m1 ⊢
  have h2 : sw1[13]? = some (.inr (2, [.ref 14, .ref 15, .ref 16, .int (nI 9)])) := w1.at 0 rfl
  have a1 : sw1[14]? = some (.inl (0, 10, .inl (fun i => nI (K i)))) := w1.at 1 rfl
  refine t_X2_loseOldest_6 (t_X2_loseOldest_7 h2 rfl (t_X2_loseOldest_10 (t_X2_loseOldest_11 (t_X2_loseOldest_12 h2 rfl (t_X2_loseOldest_15 (t_X2_loseOldest_16 (t_X2_loseOldest_17 h2 rfl (t_X2_loseOldest_20 a1 a1 (by decide) (by decide) (by decide) (by decide) (by decide) gv_rmok (Nat.le_of_ble_eq_true rfl) (?_)))))))))
  rw [cpyN _ _ (a' := 1) (b' := 0) (m' := 9) (by decide) (by decide) (by decide)]
  have w2 : wt 13 (deF (va_cpy K K 1 0 9) P W 9) _ := w1.set 1 (.inl (0, 10, .inl (fun i => nI (va_cpy K K 1 0 9 i)))) rfl
  have m2 : same 13 4 sw1 _ := same.set 14 (.inl (0, 10, .inl (fun i => nI (va_cpy K K 1 0 9 i)))) rfl
  generalize List.set sw1 _ _ = sw2 at w2 m2 ⊢
  have h2 : sw2[13]? = some (.inr (2, [.ref 14, .ref 15, .ref 16, .int (nI 9)])) := w2.at 0 rfl
  have a1 : sw2[15]? = some (.inl (0, 10, .inl (fun i => nI (P i)))) := w2.at 2 rfl
  refine t_X2_loseOldest_23 (t_X2_loseOldest_24 h2 rfl (t_X2_loseOldest_27 (t_X2_loseOldest_28 (t_X2_loseOldest_29 h2 rfl (t_X2_loseOldest_32 (t_X2_loseOldest_33 (t_X2_loseOldest_34 h2 rfl (t_X2_loseOldest_37 a1 a1 (by decide) (by decide) (by decide) (by decide) (by decide) gv_rmok (Nat.le_of_ble_eq_true rfl) (?_)))))))))
  rw [cpyN _ _ (a' := 1) (b' := 0) (m' := 9) (by decide) (by decide) (by decide)]
  have w3 : wt 13 (deF (va_cpy K K 1 0 9) (va_cpy P P 1 0 9) W 9) _ := w2.set 2 (.inl (0, 10, .inl (fun i => nI (va_cpy P P 1 0 9 i)))) rfl
  have m3 : same 13 4 sw2 _ := same.set 15 (.inl (0, 10, .inl (fun i => nI (va_cpy P P 1 0 9 i)))) rfl
  generalize List.set sw2 _ _ = sw3 at w3 m3 ⊢
  have h2 : sw3[13]? = some (.inr (2, [.ref 14, .ref 15, .ref 16, .int (nI 9)])) := w3.at 0 rfl
  have a1 : sw3[16]? = some (.inl (0, 10, .inl (fun i => nI (W i)))) := w3.at 3 rfl
  refine t_X2_loseOldest_40 (t_X2_loseOldest_41 h2 rfl (t_X2_loseOldest_44 (t_X2_loseOldest_45 (t_X2_loseOldest_46 h2 rfl (t_X2_loseOldest_49 (t_X2_loseOldest_50 (t_X2_loseOldest_51 h2 rfl (t_X2_loseOldest_54 a1 a1 (by decide) (by decide) (by decide) (by decide) (by decide) gv_rmok (Nat.le_of_ble_eq_true rfl) (?_)))))))))
  rw [cpyN _ _ (a' := 1) (b' := 0) (m' := 9) (by decide) (by decide) (by decide)]
  have w4 : wt 13 (deF (va_cpy K K 1 0 9) (va_cpy P P 1 0 9) (va_cpy W W 1 0 9) 9) _ := w3.set 3 (.inl (0, 10, .inl (fun i => nI (va_cpy W W 1 0 9 i)))) rfl
  have m4 : same 13 4 sw3 _ := same.set 16 (.inl (0, 10, .inl (fun i => nI (va_cpy W W 1 0 9 i)))) rfl
  generalize List.set sw3 _ _ = sw4 at w4 m4 ⊢
  refine t_X2_loseOldest_57 (Nat.le_refl _) ?_
  exact h1 _ w4 (((m1.tr m2).tr m3).tr m4)
theorem sp_X2_note (k p w : Nat) (hw : wt 13 (deF K P W kn) sw) (hn : kn ≤ 10) (h1 : ∀ K' P' W' kn' sw', pushD K P W kn k p w K' P' W' kn' → wt 13 (deF K' P' W' kn') sw' → same 13 4 sw sw' → Qs none sw') : gv_S ε (d + 2) m_X2_note [.ref 13, .int (nI k), .int (nI p), .int (nI w)] sw Qs := by
  have main : ∀ (K1 P1 W1 : Nat → Nat) (q : Nat) (sw1 : List va_E), q < 10 → wt 13 (deF K1 P1 W1 q) sw1 → (∀ sw', wt 13 (deF (up K1 q k) (up P1 q p) (up W1 q w) (q + 1)) sw' → same 13 4 sw1 sw' → Qs none sw') → gv_M ε (d + 2) m_X2_note sw.length Qs 13 [some (.ref 13), some (.int (nI k)), some (.int (nI p)), some (.int (nI w))] [] sw1 0 0 := by
    intro K1 P1 W1 q sw1 hq w1 hk
    have h2 : sw1[13]? = some (.inr (2, [.ref 14, .ref 15, .ref 16, .int (nI q)])) := w1.at 0 rfl
    have a1 : sw1[14]? = some (.inl (0, 10, .inl (fun i => nI (K1 i)))) := w1.at 1 rfl
    refine t_X2_note_13 (t_X2_note_14 h2 rfl (t_X2_note_17 (t_X2_note_18 h2 rfl (t_X2_note_21 (t_X2_note_22 a1 q hq rfl (by decide) (?_))))))
    rw [nI_set]
    have w2 : wt 13 (deF (up K1 q k) P1 W1 q) _ := w1.set 1 (.inl (0, 10, .inl (fun i => nI (if i = q then k else K1 i)))) rfl
    have m2 : same 13 4 sw1 _ := same.set 14 (.inl (0, 10, .inl (fun i => nI (if i = q then k else K1 i)))) rfl
    generalize List.set sw1 _ _ = sw2 at w2 m2 ⊢
    have h2 : sw2[13]? = some (.inr (2, [.ref 14, .ref 15, .ref 16, .int (nI q)])) := w2.at 0 rfl
    have a1 : sw2[15]? = some (.inl (0, 10, .inl (fun i => nI (P1 i)))) := w2.at 2 rfl
    refine t_X2_note_23 (t_X2_note_24 h2 rfl (t_X2_note_27 (t_X2_note_28 h2 rfl (t_X2_note_31 (t_X2_note_32 a1 q hq rfl (by decide) (?_))))))
    rw [nI_set]
    have w3 : wt 13 (deF (up K1 q k) (up P1 q p) W1 q) _ := w2.set 2 (.inl (0, 10, .inl (fun i => nI (if i = q then p else P1 i)))) rfl
    have m3 : same 13 4 sw2 _ := same.set 15 (.inl (0, 10, .inl (fun i => nI (if i = q then p else P1 i)))) rfl
    generalize List.set sw2 _ _ = sw3 at w3 m3 ⊢
    have h2 : sw3[13]? = some (.inr (2, [.ref 14, .ref 15, .ref 16, .int (nI q)])) := w3.at 0 rfl
    have a1 : sw3[16]? = some (.inl (0, 10, .inl (fun i => nI (W1 i)))) := w3.at 3 rfl
    refine t_X2_note_33 (t_X2_note_34 h2 rfl (t_X2_note_37 (t_X2_note_38 h2 rfl (t_X2_note_41 (t_X2_note_42 a1 q hq rfl (by decide) (?_))))))
    rw [nI_set]
    have w4 : wt 13 (deF (up K1 q k) (up P1 q p) (up W1 q w) q) _ := w3.set 3 (.inl (0, 10, .inl (fun i => nI (if i = q then w else W1 i)))) rfl
    have m4 : same 13 4 sw3 _ := same.set 16 (.inl (0, 10, .inl (fun i => nI (if i = q then w else W1 i)))) rfl
    generalize List.set sw3 _ _ = sw4 at w4 m4 ⊢
    have h2 : sw4[13]? = some (.inr (2, [.ref 14, .ref 15, .ref 16, .int (nI q)])) := w4.at 0 rfl
    refine t_X2_note_43 (t_X2_note_44 rfl (t_X2_note_45 h2 rfl (t_X2_note_48 (t_X2_note_49N (t_X2_note_50 h2 rfl (t_X2_note_53 (Nat.le_refl _) ?_))))))
    exact hk _ (w4.set 0 _ rfl) (((m2.tr m3).tr m4).tr (same.set 13 _ rfl))
  have h2 : sw[13]? = some (.inr (2, [.ref 14, .ref 15, .ref 16, .int (nI kn)])) := hw.at 0 rfl
  refine gv_S.go rfl ?_
  refine t_X2_note_0 (t_X2_note_1 h2 rfl (t_X2_note_4 (t_X2_note_6N (by omega) (by omega) (fun h => ?_) (fun h => ?_))))
  · refine main K P W kn sw h hw (fun sw' a b => h1 _ _ _ _ sw' ⟨by omega, ⟨?_, ?_, ?_⟩, fun j hj => ⟨?_, ?_, ?_⟩⟩ a b)
    · rw [Nat.add_sub_cancel, up_at]
    · rw [Nat.add_sub_cancel, up_at]
    · rw [Nat.add_sub_cancel, up_at]
    · rw [up_ne (by omega)]; rfl
    · rw [up_ne (by omega)]; rfl
    · rw [up_ne (by omega)]; rfl
  · have e : kn = 10 := by omega
    subst e
    refine t_X2_note_9 (t_X2_note_10 h2 (Nat.le_of_ble_eq_true rfl) (sp_X2_loseOldest hw (fun sw1 w1 m1 => ?_)))
    refine main _ _ _ 9 sw1 (by decide) w1 (fun sw' a b => h1 _ _ _ 10 sw' ⟨by omega, ⟨?_, ?_, ?_⟩, fun j hj => ⟨?_, ?_, ?_⟩⟩ a (m1.tr b))
    · rw [up_at]
    · rw [up_at]
    · rw [up_at]
    · rw [up_ne (by omega)]; unfold va_cpy; rw [if_pos (by omega)]; congr 1; omega
    · rw [up_ne (by omega)]; unfold va_cpy; rw [if_pos (by omega)]; congr 1; omega
    · rw [up_ne (by omega)]; unfold va_cpy; rw [if_pos (by omega)]; congr 1; omega
theorem sp_X2_takeBack (hw : wt 13 (deF K P W kn) sw) (hs : wt 3 (shF 3 s) sw) (ho : shOk s) (hn : kn ≤ 10) (hv : 0 < kn → vdS (K (kn - 1)) (P (kn - 1)) (W (kn - 1)) s) (h0 : kn = 0 → Qs (some (.int (nI 0))) sw) (h1 : 0 < kn → ∀ sw1 sw2, wt 13 (deF K P W (kn - 1)) sw1 → same 13 4 sw sw1 → wt 3 (shF 3 (tbS (K (kn - 1)) (P (kn - 1)) (W (kn - 1)) s)) sw2 → same 3 5 sw1 sw2 → Qs (some (.int (nI 1))) sw2) : gv_S ε (d + 2) m_X2_takeBack [.ref 13, .ref 3] sw Qs := by
  have h2 : sw[13]? = some (.inr (2, [.ref 14, .ref 15, .ref 16, .int (nI kn)])) := hw.at 0 rfl
  obtain ⟨o1, o2, o3, o4, o5, o6, o7⟩ := ho
  refine gv_S.go rfl ?_
  refine t_X2_takeBack_0 (t_X2_takeBack_1 h2 rfl (t_X2_takeBack_4 (fun h => ?_) (fun h => ?_)))
  · rw [nI_gt0 (by omega)] at h
    refine t_X2_takeBack_9 (t_X2_takeBack_10 rfl (t_X2_takeBack_11 h2 rfl (t_X2_takeBack_14 (t_X2_takeBack_15N (by omega) (t_X2_takeBack_16 h2 rfl (?_))))))
    have w1 : wt 13 (deF K P W (kn - 1)) _ := hw.set 0 (.inr (2, [.ref 14, .ref 15, .ref 16, .int (nI (kn - 1))])) rfl
    have m1 : same 13 4 sw _ := same.set 13 (.inr (2, [.ref 14, .ref 15, .ref 16, .int (nI (kn - 1))])) rfl
    show gv_M ε (d + 2) m_X2_takeBack sw.length Qs 19 _ _ (List.set sw (13 + 0) (.inr (2, [.ref 14, .ref 15, .ref 16, .int (nI (kn - 1))]))) 0 0
    generalize List.set sw _ _ = sw1 at w1 m1 ⊢
    have hs1 := hs.keep m1 rfl
    have fin := fun sw2 => h1 h sw1 sw2 w1 m1
    have hv1 := hv h
    have h2 : sw1[13]? = some (.inr (2, [.ref 14, .ref 15, .ref 16, .int (nI (kn - 1))])) := w1.at 0 rfl
    have a1 : sw1[14]? = some (.inl (0, 10, .inl (fun i => nI (K i)))) := w1.at 1 rfl
    have a2 : sw1[15]? = some (.inl (0, 10, .inl (fun i => nI (P i)))) := w1.at 2 rfl
    have a3 : sw1[16]? = some (.inl (0, 10, .inl (fun i => nI (W i)))) := w1.at 3 rfl
    have h4 : sw1[3]? = some (.inr (4, [.ref (3 + 1), .ref (3 + 2), .ref (3 + 3), .ref (3 + 4), .int (nI s.2.2.2.2)])) := hs1.at 0 rfl
    refine t_X2_takeBack_19 (t_X2_takeBack_20 h2 rfl (t_X2_takeBack_23 (t_X2_takeBack_24 h2 rfl (t_X2_takeBack_27 a2 (kn - 1) (by omega) rfl (by decide) (t_X2_takeBack_28 (t_X2_takeBack_29 (t_X2_takeBack_30 h2 rfl (t_X2_takeBack_33 (t_X2_takeBack_34 h2 rfl (t_X2_takeBack_37 a3 (kn - 1) (by omega) rfl (by decide) (t_X2_takeBack_38 (t_X2_takeBack_39 (t_X2_takeBack_40 h2 rfl (t_X2_takeBack_43 (t_X2_takeBack_44 h2 rfl (t_X2_takeBack_47 a1 (kn - 1) (by omega) rfl (by decide) (?_)))))))))))))))))
    generalize P (kn - 1) = p at fin hv1 ⊢
    generalize W (kn - 1) = w at fin hv1 ⊢
    generalize K (kn - 1) = k at fin hv1 ⊢
    rcases hv1 with ⟨rfl, g1, g2⟩ | ⟨rfl, g1, g2⟩ | ⟨rfl, g1⟩ | ⟨rfl, g1, g2, g3⟩ | ⟨rfl, g1⟩
    · have b1 : sw1[3 + 2]? = some (.inl (0, 18, .inl (fun i => nI (s.2.1 i)))) := hs1.at 2 rfl
      refine t_X2_takeBack_48_0 ?_
      refine t_X2_takeBack_80 (t_X2_takeBack_81 h4 rfl (t_X2_takeBack_84 (t_X2_takeBack_85 (t_X2_takeBack_86 b1 p g1 rfl (by decide) (t_X2_takeBack_87 (?_))))))
      rw [nI_set]
      refine t_X2_takeBack_123 (t_X2_takeBack_124 rfl ?_)
      exact fin _ (hs1.set 2 _ rfl) (same.setb 2 _ rfl)
    · refine t_X2_takeBack_48_1 ?_
      refine t_X2_takeBack_90 (t_X2_takeBack_91 (t_X2_takeBack_92 h4 (Nat.le_of_ble_eq_true rfl) (sp_X4_chop p hs1 o5 g1 (o6 p g1) (fun q => absurd q (by omega)) (fun _ sw2 w2 m2 => ?_))))
      refine t_X2_takeBack_95 rfl (t_X2_takeBack_96 (t_X2_takeBack_123 (t_X2_takeBack_124 rfl ?_)))
      exact fin _ w2 m2
    · refine t_X2_takeBack_48_2 ?_
      refine t_X2_takeBack_99 (t_X2_takeBack_100 h4 (Nat.le_of_ble_eq_true rfl) (sp_X4_dropLast hs1 o5 g1 (fun sw2 w2 m2 => ?_)))
      refine t_X2_takeBack_103 (t_X2_takeBack_123 (t_X2_takeBack_124 rfl ?_))
      exact fin _ w2 m2
    · refine t_X2_takeBack_48_3 ?_
      refine t_X2_takeBack_106 (t_X2_takeBack_107 (t_X2_takeBack_108 (t_X2_takeBack_109 h4 (Nat.le_of_ble_eq_true rfl) (sp_X4_append p w hs1 o5 g1 (o6 p g1) (fun q => absurd q (by omega)) (fun _ sw2 w2 m2 => ?_)))))
      refine t_X2_takeBack_112 rfl (t_X2_takeBack_113 (t_X2_takeBack_123 (t_X2_takeBack_124 rfl ?_)))
      exact fin _ w2 m2
    · have hp : p < 3 := by
        rcases g1 with ⟨a, _⟩ | ⟨a, _⟩ | ⟨a, _⟩ <;> omega
      have b1 : sw1[3 + 1]? = some (.inl (0, 3, .inl (fun i => nI (s.1 i)))) := hs1.at 1 rfl
      refine t_X2_takeBack_48_d (by decide) ?_
      refine t_X2_takeBack_116 (t_X2_takeBack_117 h4 rfl (t_X2_takeBack_120 (t_X2_takeBack_121 (t_X2_takeBack_122 b1 p hp rfl (by decide) (?_)))))
      rw [nI_set]
      refine t_X2_takeBack_123 (t_X2_takeBack_124 rfl ?_)
      exact fin _ (hs1.set 1 _ rfl) (same.setb 1 _ rfl)
  · rw [nI_gt0 (by omega)] at h
    refine t_X2_takeBack_7 (t_X2_takeBack_8 rfl ?_)
    exact h0 (by omega)
end S2
