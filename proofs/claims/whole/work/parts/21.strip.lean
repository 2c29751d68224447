/-! the strip: columns of a line; small static methods -/
def stF (J : Nat → Nat) : List va_E := [.inr (6, [.ref 23]), .inl (0, 24, .inl (fun i => nI (J i)))]
theorem bit_iff {v k : Nat} (hv : v < 2 ^ 31) (hk : k < 32) : ((nI v >>> (nI k &&& 31)) &&& nI 1) = nI ((v / 2 ^ k) % 2) := by
  have e1 : nI k &&& 31 = nI k := by
    rw [pk_andN (n := k) (by omega) 5 (by decide), Nat.mod_eq_of_lt (by omega)]
  rw [e1]
  have e2 : ((nI k).toBitVec.smod 32).toNat = k := by
    have : ∀ k, k < 32 → ((nI k).toBitVec.smod 32).toNat = k := by decide +kernel
    exact this k hk
  rw [pk_shrN hv (nI k) k e2]
  exact pk_andN (Nat.lt_of_le_of_lt (Nat.div_le_self _ _) (by omega)) 1 (by decide)
def dotB (J : Nat → Nat) (k c : Nat) : Bool := (J c / 2 ^ k) % 2 == 1
/-- how many of a, a + 1, .. a + n - 1 -/
def cntN (p : Nat → Bool) (a : Nat) : Nat → Nat
  | 0 => 0
  | n + 1 => cntN p a n + (if p (a + n) then 1 else 0)
theorem cntN_le (p : Nat → Bool) (a n : Nat) : cntN p a n ≤ n := by
  induction n with
  | zero => exact Nat.le_refl _
  | succ n ih => unfold cntN; split <;> omega
section S6
variable {ε : gv_E} {d : Nat} {Qs : Option Value → List va_E → Prop} {sw : List va_E} {s : shT}
theorem sp_X6_lay (l : Nat) {J0 : Nat → Nat} (h0 : wt 22 (stF J0) sw) (hw : wt 3 (shF 3 s) sw) (hs : shOk s) (hl : l < s.2.2.2.2) (hq : ∀ (J : Nat → Nat) (sw' : List va_E), (∀ c, c < 24 → J c = inkN s l c) → wt 22 (stF J) sw' → same 22 2 sw sw' → Qs none sw') : gv_S ε (d + 2) m_X6_lay [.ref 22, .ref 3, .int (nI l)] sw Qs := by
  have loop : ∀ (n c : Nat) (J : Nat → Nat) (sw' : List va_E), c + n = 24 → (∀ i, i < c → J i = inkN s l i) → wt 22 (stF J) sw' → same 22 2 sw sw' → gv_M ε (d + 2) m_X6_lay sw.length Qs 2 [some (.ref 22), some (.ref 3), some (.int (nI l)), some (.int (nI c))] [] sw' 0 0 := by
    intro n
    induction n with
    | zero =>
      intro c J sw' hc hJ hS hsm
      refine t_X6_lay_2 (t_X6_lay_3 (t_X6_lay_5N (by omega) (by omega) (fun h => ?_) (fun h => absurd h (by omega))))
      refine t_X6_lay_26 (Nat.le_refl _) ?_
      exact hq J sw' (fun i hi => hJ i (by omega)) hS hsm
    | succ n ih =>
      intro c J sw' hc hJ hS hsm
      have h6 : sw'[22]? = some (.inr (6, [.ref 23])) := hS.at 0 rfl
      have hA : sw'[23]? = some (.inl (0, 24, .inl (fun i => nI (J i)))) := hS.at 1 rfl
      have hW' := hw.keep hsm rfl
      have h4 : sw'[3]? = some (.inr (4, [.ref (3 + 1), .ref (3 + 2), .ref (3 + 3), .ref (3 + 4), .int (nI s.2.2.2.2)])) := hW'.at 0 rfl
      refine t_X6_lay_2 (t_X6_lay_3 (t_X6_lay_5N (by omega) (by omega) (fun h => absurd h (by omega)) (fun h => ?_)))
      refine t_X6_lay_8 (t_X6_lay_9 h6 rfl (t_X6_lay_12 (t_X6_lay_13 (t_X6_lay_14 (t_X6_lay_15 (t_X6_lay_16 h4 (Nat.le_of_ble_eq_true rfl) (sp_X4_inkAt l c hW' hs hl (by omega) ?_)))))))
      refine t_X6_lay_19 hA c (by omega) rfl (by decide) (t_X6_lay_20N (t_X6_lay_23 (?_)))
      rw [nI_set]
      refine ih (c + 1) _ _ (by omega) (fun i hi => ?_) (hS.set 1 _ rfl) (hsm.tr (same.set 23 _ rfl))
      by_cases q : i = c
      · rw [if_pos q, q]
      · rw [if_neg q]
        exact hJ i (by omega)
  refine gv_S.go rfl ?_
  refine t_X6_lay_0 (t_X6_lay_1 (?_))
  exact loop 24 0 J0 sw (by decide) (fun i hi => absurd hi (by omega)) h0 same.rf
theorem sp_X7_isColumn (x : Int32) (h1 : ∀ j, j < 24 → x = nI j → Qs (some (.int (nI 1))) sw) (h0 : (∀ j, j < 24 → x ≠ nI j) → Qs (some (.int (nI 0))) sw) : gv_S ε d m_X7_isColumn [.int x] sw Qs := by
  refine gv_S.go rfl ?_
  refine t_X7_isColumn_0 (t_X7_isColumn_1 (fun h => ?_) (fun h => ?_))
  · refine t_X7_isColumn_14 (t_X7_isColumn_15 rfl (h0 (fun j hj e => ?_)))
    rw [e] at h
    exact nI_pos (by omega) h
  · refine t_X7_isColumn_4 (t_X7_isColumn_5 (t_X7_isColumn_7 (fun g => ?_) (fun g => ?_)))
    · refine t_X7_isColumn_14 (t_X7_isColumn_15 rfl (h0 (fun j hj e => ?_)))
      rw [e] at g
      exact nI_ge hj (by omega) g
    · refine t_X7_isColumn_10 (t_X7_isColumn_11 (t_X7_isColumn_15 rfl ?_))
      rcases arg_in x (n := 24) (by omega) with q | q | ⟨j, hj, e⟩
      · exact absurd q h
      · exact absurd q g
      · exact h1 j hj e
theorem sp_X7_isNeedle (x : Int32) (h1 : ∀ j, j < 8 → x = nI j → Qs (some (.int (nI 1))) sw) (h0 : (∀ j, j < 8 → x ≠ nI j) → Qs (some (.int (nI 0))) sw) : gv_S ε d m_X7_isNeedle [.int x] sw Qs := by
  refine gv_S.go rfl ?_
  refine t_X7_isNeedle_0 (t_X7_isNeedle_1 (fun h => ?_) (fun h => ?_))
  · refine t_X7_isNeedle_14 (t_X7_isNeedle_15 rfl (h0 (fun j hj e => ?_)))
    rw [e] at h
    exact nI_pos (by omega) h
  · refine t_X7_isNeedle_4 (t_X7_isNeedle_5 (t_X7_isNeedle_7 (fun g => ?_) (fun g => ?_)))
    · refine t_X7_isNeedle_14 (t_X7_isNeedle_15 rfl (h0 (fun j hj e => ?_)))
      rw [e] at g
      exact nI_ge hj (by omega) g
    · refine t_X7_isNeedle_10 (t_X7_isNeedle_11 (t_X7_isNeedle_15 rfl ?_))
      rcases arg_in x (n := 8) (by omega) with q | q | ⟨j, hj, e⟩
      · exact absurd q h
      · exact absurd q g
      · exact h1 j hj e
/-- a dot: columns beyond the last have none -/
theorem sp_X6_hasDot (k c : Nat) {J : Nat → Nat} (hS : wt 22 (stF J) sw) (hJ : ∀ c, c < 24 → J c ≤ 255) (hk : k < 8) (hc : c < 100) (hq : Qs (some (.int (nI (if c < 24 ∧ dotB J k c = true then 1 else 0)))) sw) : gv_S ε (d + 1) m_X6_hasDot [.ref 22, .int (nI k), .int (nI c)] sw Qs := by
  have h6 : sw[22]? = some (.inr (6, [.ref 23])) := hS.at 0 rfl
  have hA : sw[23]? = some (.inl (0, 24, .inl (fun i => nI (J i)))) := hS.at 1 rfl
  refine gv_S.go rfl ?_
  refine t_X6_hasDot_0 (t_X6_hasDot_1 (Nat.le_of_ble_eq_true rfl) (sp_X7_isColumn (nI c) (fun j hj e => ?_) (fun h => ?_)))
  · have e2 : c = j := nI_inj (by omega) (by omega) e
    subst e2
    have := hJ c hj
    refine t_X6_hasDot_4 (fun h => absurd h (by decide)) (fun _ => ?_)
    refine t_X6_hasDot_7 (t_X6_hasDot_8 h6 rfl (t_X6_hasDot_11 (t_X6_hasDot_12 hA c hj rfl (by decide) (t_X6_hasDot_13 (t_X6_hasDot_14 (t_X6_hasDot_15 (t_X6_hasDot_16 (t_X6_hasDot_17 (t_X6_hasDot_18 (fun h => ?_) (fun h => ?_))))))))))
    · rw [bit_iff (by omega) (by omega)] at h
      refine t_X6_hasDot_25 (t_X6_hasDot_26 rfl ?_)
      have e : ¬ (c < 24 ∧ dotB J k c = true) := by
        rintro ⟨-, q⟩
        refine h ?_
        rw [show J c / 2 ^ k % 2 = 1 from beq_iff_eq.mp q]
      rw [if_neg e] at hq
      exact hq
    · rw [bit_iff (by omega) (by omega)] at h
      refine t_X6_hasDot_21 (t_X6_hasDot_22 (t_X6_hasDot_26 rfl ?_))
      have e : c < 24 ∧ dotB J k c = true := ⟨hj, beq_iff_eq.mpr (nI_inj (by omega) (by decide) h)⟩
      rw [if_pos e] at hq
      exact hq
  · refine t_X6_hasDot_4 (fun _ => ?_) (fun h => absurd rfl h)
    refine t_X6_hasDot_25 (t_X6_hasDot_26 rfl ?_)
    rw [if_neg (fun q => h c q.1 rfl)] at hq
    exact hq
theorem sp_X6_amountFrom (k a n : Nat) {J : Nat → Nat} (hS : wt 22 (stF J) sw) (hJ : ∀ c, c < 24 → J c ≤ 255) (hk : k < 8) (ha : a + n < 100) (hq : Qs (some (.int (nI (cntN (fun c => decide (c < 24 ∧ dotB J k c = true)) a n)))) sw) : gv_S ε (d + 2) m_X6_amountFrom [.ref 22, .int (nI k), .int (nI a), .int (nI n)] sw Qs := by
  have h6 : sw[22]? = some (.inr (6, [.ref 23])) := hS.at 0 rfl
  have loop : ∀ (m i : Nat), i + m = n → gv_M ε (d + 2) m_X6_amountFrom sw.length Qs 6 [some (.ref 22), some (.int (nI k)), some (.int (nI a)), some (.int (nI n)), some (.int (nI (cntN (fun c => decide (c < 24 ∧ dotB J k c = true)) a i))), some (.int (nI (a + i)))] [] sw 0 0 := by
    intro m
    induction m with
    | zero =>
      intro i hi
      refine t_X6_amountFrom_6 (t_X6_amountFrom_8 (t_X6_amountFrom_9 (t_X6_amountFrom_10N (t_X6_amountFrom_11N (by omega) (by omega) (fun h => ?_) (fun h => absurd h (by omega))))))
      refine t_X6_amountFrom_33 (t_X6_amountFrom_35 ?_)
      rw [show i = n by omega]
      exact hq
    | succ m ih =>
      intro i hi
      refine t_X6_amountFrom_6 (t_X6_amountFrom_8 (t_X6_amountFrom_9 (t_X6_amountFrom_10N (t_X6_amountFrom_11N (by omega) (by omega) (fun h => absurd h (by omega)) (fun h => ?_)))))
      refine t_X6_amountFrom_14 (t_X6_amountFrom_15 (t_X6_amountFrom_16 (t_X6_amountFrom_18 h6 (Nat.le_of_ble_eq_true rfl) (sp_X6_hasDot k (a + i) hS hJ hk (by omega) ?_))))
      by_cases q : a + i < 24 ∧ dotB J k (a + i) = true
      · rw [if_pos q]
        refine t_X6_amountFrom_21 (fun h => absurd h (by decide)) (fun _ => ?_)
        refine t_X6_amountFrom_24N (t_X6_amountFrom_27N (t_X6_amountFrom_30 (?_)))
        have := ih (i + 1) (by omega)
        unfold cntN at this
        rw [if_pos (decide_eq_true q)] at this
        exact this
      · rw [if_neg q]
        refine t_X6_amountFrom_21 (fun _ => ?_) (fun h => absurd rfl h)
        refine t_X6_amountFrom_27N (t_X6_amountFrom_30 (?_))
        have := ih (i + 1) (by omega)
        unfold cntN at this
        rw [if_neg (by simpa using q)] at this
        exact this
  refine gv_S.go rfl ?_
  refine t_X6_amountFrom_0 (t_X6_amountFrom_1 (t_X6_amountFrom_3 (t_X6_amountFrom_4 (?_))))
  exact loop n 0 (by omega)
theorem sp_X6_amount (k : Nat) {J : Nat → Nat} (hS : wt 22 (stF J) sw) (hJ : ∀ c, c < 24 → J c ≤ 255) (hk : k < 8) (hq : Qs (some (.int (nI (cntN (fun c => decide (c < 24 ∧ dotB J k c = true)) 0 24)))) sw) : gv_S ε (d + 3) m_X6_amount [.ref 22, .int (nI k)] sw Qs := by
  have h6 : sw[22]? = some (.inr (6, [.ref 23])) := hS.at 0 rfl
  refine gv_S.go rfl ?_
  refine t_X6_amount_0 (t_X6_amount_1 (t_X6_amount_2 (t_X6_amount_3 (t_X6_amount_5 h6 (Nat.le_of_ble_eq_true rfl) (sp_X6_amountFrom k 0 24 hS hJ hk (by decide) ?_)))))
  refine t_X6_amount_8 ?_
  exact hq
end S6
