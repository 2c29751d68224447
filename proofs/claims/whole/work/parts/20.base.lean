/-! worlds by places -/
def wt (b : Nat) (l : List va_E) (sw : List va_E) : Prop := ∀ (k : Nat) (e : va_E), l[k]? = some e → sw[b + k]? = some e
theorem wt.at {b : Nat} {l sw : List va_E} (h : wt b l sw) (k : Nat) {e : va_E} (he : l[k]? = some e) : sw[b + k]? = some e := h k e he
/-- outside b .. b + n nothing changed -/
def same (b n : Nat) (sw sw' : List va_E) : Prop := sw'.length = sw.length ∧ ∀ q : Nat, (q < b ∨ b + n ≤ q) → sw'[q]? = sw[q]?
theorem same.rf {b n : Nat} {sw : List va_E} : same b n sw sw := ⟨rfl, fun _ _ => rfl⟩
theorem same.tr {b n : Nat} {s1 s2 s3 : List va_E} (h1 : same b n s1 s2) (h2 : same b n s2 s3) : same b n s1 s3 := ⟨h2.1.trans h1.1, fun q hq => (h2.2 q hq).trans (h1.2 q hq)⟩
theorem same.wide {b n b' n' : Nat} {s1 s2 : List va_E} (h : same b n s1 s2) (h1 : b' ≤ b) (h2 : b + n ≤ b' + n') : same b' n' s1 s2 := ⟨h.1, fun q hq => h.2 q (by omega)⟩
theorem same.set {b n : Nat} {sw : List va_E} (q : Nat) (x : va_E) (h : (Nat.ble b q && Nat.ble (q + 1) (b + n)) = true) : same b n sw (sw.set q x) := by
  rw [Bool.and_eq_true, Nat.ble_eq, Nat.ble_eq] at h
  exact ⟨List.length_set, fun p hp => List.getElem?_set_ne (by omega)⟩
theorem wt.keep {b b' n : Nat} {l sw sw' : List va_E} (h : wt b' l sw) (hs : same b n sw sw') (hd : (Nat.ble (b' + l.length) b || Nat.ble (b + n) b') = true) : wt b' l sw' := by
  rw [Bool.or_eq_true, Nat.ble_eq, Nat.ble_eq] at hd
  intro k e he
  have hk : k < l.length := (List.getElem?_eq_some_iff.mp he).1
  rw [hs.2 _ (by omega)]
  exact h k e he
theorem wt.set {b : Nat} {l sw : List va_E} (h : wt b l sw) (k : Nat) (x : va_E) (hk : Nat.ble (k + 1) l.length = true) : wt b (l.set k x) (sw.set (b + k) x) := by
  rw [Nat.ble_eq] at hk
  have hk : k < l.length := hk
  intro j e he
  rw [List.getElem?_set] at he
  rw [List.getElem?_set]
  by_cases q : k = j
  · subst q
    rw [if_pos rfl, if_pos hk] at he
    have hin : b + k < sw.length := by
      have := h k l[k] (List.getElem?_eq_getElem hk)
      exact (List.getElem?_eq_some_iff.mp this).1
    rw [if_pos rfl, if_pos hin]
    exact he
  · rw [if_neg q] at he
    rw [if_neg (by omega)]
    exact h j e he
theorem wt.upto {b : Nat} {l l' sw : List va_E} (h : wt b l sw) (e : l = l') : wt b l' sw := e ▸ h
/-! numbers -/
theorem nI_set {r : Nat → Nat} (j x : Nat) : upd (fun i => nI (r i)) j (nI x) = fun i => nI (if i = j then x else r i) := by
  funext i
  unfold upd
  split <;> simp_all
theorem nI_inj {a b : Nat} (ha : a < 2 ^ 31) (hb : b < 2 ^ 31) (h : nI a = nI b) : a = b := (nI_eq ha hb).mp h
/-- an argument against a bound -/
theorem arg_in (x : Int32) {n : Nat} (hn : n < 2 ^ 31) : x < 0 ∨ nI n ≤ x ∨ ∃ j : Nat, j < n ∧ x = nI j := pk_ix x hn
/-! the sheet's cells -/
abbrev shT : Type := (Nat → Nat) × (Nat → Nat) × (Nat → Nat) × (Nat → Nat) × Nat
-- settings, shapes, lengths, signs, lines
def shF (b : Nat) (s : shT) : List va_E := [.inr (4, [.ref (b + 1), .ref (b + 2), .ref (b + 3), .ref (b + 4), .int (nI s.2.2.2.2)]), .inl (0, 3, .inl (fun i => nI (s.1 i))), .inl (0, 18, .inl (fun i => nI (s.2.1 i))), .inl (0, 4, .inl (fun i => nI (s.2.2.1 i))), .inl (0, 32, .inl (fun i => nI (s.2.2.2.1 i)))]
def shOk (s : shT) : Prop := s.1 0 ≤ 4 ∧ s.1 1 ≤ 9 ∧ (1 ≤ s.1 2 ∧ s.1 2 ≤ 72) ∧ (∀ j, j < 18 → s.2.1 j ≤ 255) ∧ s.2.2.2.2 ≤ 4 ∧ (∀ l, l < s.2.2.2.2 → s.2.2.1 l ≤ 8) ∧ (∀ l k, l < s.2.2.2.2 → k < s.2.2.1 l → s.2.2.2.1 (8 * l + k) ≤ 6)
/-- the dots of a column -/
def inkN (s : shT) (l c : Nat) : Nat := if l < s.2.2.2.2 ∧ c < 3 * s.2.2.1 l ∧ s.2.2.2.1 (8 * l + c / 3) < 6 then s.2.1 (3 * s.2.2.2.1 (8 * l + c / 3) + c % 3) else 0
theorem inkN_le {s : shT} (h : shOk s) (l c : Nat) : inkN s l c ≤ 255 := by
  unfold inkN
  split
  · rename_i q
    exact h.2.2.2.1 _ (by omega)
  · exact Nat.zero_le _
/-- a contract, begun -/
theorem gv_S.go {ε : gv_E} {d : Nat} {M : gv_MR} {As : List Value} {sw : List va_E} {Qs : Option Value → List va_E → Prop} (h : (As.all (fun v => v.category == 1) && (Nat.ble As.length M.2.2.1 && plainName M.1.cls)) = true) (k : gv_M ε d M sw.length Qs 0 (gv_L0 As M.2.2.1) [] sw 0 0) : gv_S ε d M As sw Qs := by
  simp only [Bool.and_eq_true] at h
  refine gv_S.intro h.2.2 (fun v hv => ?_) (Nat.le_of_ble_eq_true h.2.1) k
  exact beq_iff_eq.mp (List.all_eq_true.mp h.1 v hv)
section S4
variable {ε : gv_E} {d : Nat} {Qs : Option Value → List va_E → Prop} {sw : List va_E} {b : Nat} {s : shT}
theorem sp_X4_hasLine (x : Int32) (hw : wt b (shF b s) sw) (hn : s.2.2.2.2 ≤ 4) (h1 : ∀ j, j < s.2.2.2.2 → x = nI j → Qs (some (.int (nI 1))) sw) (h0 : (∀ j, j < s.2.2.2.2 → x ≠ nI j) → Qs (some (.int (nI 0))) sw) : gv_S ε d m_X4_hasLine [.ref b, .int x] sw Qs := by
  have h4 : sw[b]? = some (.inr (4, [.ref (b + 1), .ref (b + 2), .ref (b + 3), .ref (b + 4), .int (nI s.2.2.2.2)])) := hw.at 0 rfl
  refine gv_S.go rfl ?_
  refine t_X4_hasLine_0 (t_X4_hasLine_1 (fun h => ?_) (fun h => ?_))
  · refine t_X4_hasLine_16 (t_X4_hasLine_17 rfl (h0 (fun j hj e => ?_)))
    rw [e] at h
    exact nI_pos (by omega) h
  · refine t_X4_hasLine_4 (t_X4_hasLine_5 (t_X4_hasLine_6 h4 rfl (t_X4_hasLine_9 (fun g => ?_) (fun g => ?_))))
    · refine t_X4_hasLine_16 (t_X4_hasLine_17 rfl (h0 (fun j hj e => ?_)))
      rw [e] at g
      exact nI_ge hj (by omega) g
    · refine t_X4_hasLine_12 (t_X4_hasLine_13 (t_X4_hasLine_17 rfl ?_))
      rcases arg_in x (n := s.2.2.2.2) (by omega) with q | q | ⟨j, hj, e⟩
      · exact absurd q h
      · exact absurd q g
      · exact h1 j hj e
theorem sp_X4_inkAt (l c : Nat) (hw : wt b (shF b s) sw) (hs : shOk s) (hl : l < s.2.2.2.2) (hc : c < 24) (hq : Qs (some (.int (nI (inkN s l c)))) sw) : gv_S ε (d + 1) m_X4_inkAt [.ref b, .int (nI l), .int (nI c)] sw Qs := by
  have h4 : sw[b]? = some (.inr (4, [.ref (b + 1), .ref (b + 2), .ref (b + 3), .ref (b + 4), .int (nI s.2.2.2.2)])) := hw.at 0 rfl
  have hsh : sw[b + 2]? = some (.inl (0, 18, .inl (fun i => nI (s.2.1 i)))) := hw.at 2 rfl
  have hln : sw[b + 3]? = some (.inl (0, 4, .inl (fun i => nI (s.2.2.1 i)))) := hw.at 3 rfl
  have hsg : sw[b + 4]? = some (.inl (0, 32, .inl (fun i => nI (s.2.2.2.1 i)))) := hw.at 4 rfl
  obtain ⟨o1, o2, o3, o4, o5, o6, o7⟩ := hs
  have hlen := o6 l hl
  refine gv_S.go rfl ?_
  refine t_X4_inkAt_0 (t_X4_inkAt_1 (t_X4_inkAt_2 h4 (Nat.le_of_ble_eq_true rfl) (sp_X4_hasLine (nI l) hw o5 (fun j hj e => ?_) (fun h => absurd rfl (h l hl)))))
  refine t_X4_inkAt_5 (fun h => absurd h (by decide)) (fun _ => ?_)
  refine t_X4_inkAt_8 (t_X4_inkAt_9N (by omega) ?_)
  refine t_X4_inkAt_12 (t_X4_inkAt_13 (t_X4_inkAt_14 h4 rfl (t_X4_inkAt_17 (t_X4_inkAt_18 hln l (by omega) rfl (by decide) (t_X4_inkAt_19 (t_X4_inkAt_20N (t_X4_inkAt_21N (by omega) (by omega) (fun h => ?_) (fun h => ?_))))))))
  · have hc3 : c / 3 < s.2.2.1 l := by omega
    have hsg6 := o7 l (c / 3) hl hc3
    refine t_X4_inkAt_26 (t_X4_inkAt_27 h4 rfl (t_X4_inkAt_30 (t_X4_inkAt_31 (t_X4_inkAt_33N (t_X4_inkAt_34 (t_X4_inkAt_35 (t_X4_inkAt_36N (by omega) (by decide) (by decide) (t_X4_inkAt_37N (t_X4_inkAt_38 hsg (8 * l + c / 3) (by omega) (by rw [Nat.mul_comm]) (by decide) (t_X4_inkAt_39 (t_X4_inkAt_40 (t_X4_inkAt_41N (by omega) ?_))))))))))))
    refine t_X4_inkAt_44 (t_X4_inkAt_45 (t_X4_inkAt_47N (by omega) (by omega) (fun g => ?_) (fun g => ?_)))
    · refine t_X4_inkAt_52 (t_X4_inkAt_53 h4 rfl (t_X4_inkAt_56 (t_X4_inkAt_57 (t_X4_inkAt_58N (t_X4_inkAt_59 (t_X4_inkAt_60 (t_X4_inkAt_61N (by omega) (by decide) (by decide) (t_X4_inkAt_62N (t_X4_inkAt_63 hsh (3 * s.2.2.2.1 (8 * l + c / 3) + c % 3) (by omega) (by rw [Nat.mul_comm]) (by decide) (t_X4_inkAt_64 ?_))))))))))
      have e : inkN s l c = s.2.1 (3 * s.2.2.2.1 (8 * l + c / 3) + c % 3) := by
        unfold inkN
        rw [if_pos ⟨hl, by omega, g⟩]
      rw [e] at hq
      exact hq
    · refine t_X4_inkAt_50 (t_X4_inkAt_51 ?_)
      have e : inkN s l c = 0 := by
        unfold inkN
        rw [if_neg (fun q => by omega)]
      rw [e] at hq
      exact hq
  · refine t_X4_inkAt_24 (t_X4_inkAt_25 ?_)
    have e : inkN s l c = 0 := by
      unfold inkN
      rw [if_neg (fun q => by omega)]
    rw [e] at hq
    exact hq
end S4
