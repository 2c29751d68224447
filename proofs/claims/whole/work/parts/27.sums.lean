/-! sums, counts, the most crowded -/
def sumN (f : Nat → Nat) : Nat → Nat
  | 0 => 0
  | n + 1 => sumN f n + f n
theorem sumN_cong {f g : Nat → Nat} : ∀ {n : Nat}, (∀ i, i < n → f i = g i) → sumN f n = sumN g n := by
  intro n
  induction n with
  | zero => intro _; rfl
  | succ n ih =>
    intro h
    unfold sumN
    rw [ih (fun i hi => h i (by omega)), h n (by omega)]
theorem sumN_le {f : Nat → Nat} {b : Nat} : ∀ n, (∀ i, i < n → f i ≤ b) → sumN f n ≤ n * b := by
  intro n
  induction n with
  | zero => intro _; unfold sumN; omega
  | succ n ih =>
    intro h
    unfold sumN
    have := ih (fun i hi => h i (by omega))
    have := h n (by omega)
    rw [Nat.succ_mul]
    omega
theorem sumN_add (f g : Nat → Nat) : ∀ n, sumN (fun i => f i + g i) n = sumN f n + sumN g n := by
  intro n
  induction n with
  | zero => rfl
  | succ n ih =>
    show sumN (fun i => f i + g i) n + (f n + g n) = (sumN f n + f n) + (sumN g n + g n)
    omega
/-- the dots of a needle -/
def amtN (J : Nat → Nat) (k : Nat) : Nat := cntN (dotB J k) 0 24
def popN (v : Nat) : Nat := cntN (fun k => v / 2 ^ k % 2 == 1) 0 8
def totN (J : Nat → Nat) : Nat := sumN (fun k => amtN J k) 8
theorem amtN_le (J : Nat → Nat) (k : Nat) : amtN J k ≤ 24 := cntN_le _ _ _
theorem amtN_eq {J J' : Nat → Nat} (h : ∀ c, c < 24 → J c = J' c) (k : Nat) : cntN (fun c => decide (c < 24 ∧ dotB J k c = true)) 0 24 = amtN J' k := by
  refine cntN_cong (fun i hi => ?_)
  rw [Nat.zero_add]
  show decide (i < 24 ∧ dotB J k i = true) = dotB J' k i
  rw [dotB_cong h k i hi]
  by_cases q : dotB J' k i = true
  · rw [q]
    simp [hi]
  · simp [q]
theorem tot_pop (J : Nat → Nat) : ∀ n, sumN (fun c => popN (J c)) n = sumN (fun k => cntN (dotB J k) 0 n) 8 := by
  intro n
  induction n with
  | zero => rfl
  | succ n ih =>
    have e1 : sumN (fun c => popN (J c)) (n + 1) = sumN (fun c => popN (J c)) n + popN (J n) := rfl
    have e2 : sumN (fun k => cntN (dotB J k) 0 (n + 1)) 8 = sumN (fun k => cntN (dotB J k) 0 n + (if dotB J k (0 + n) = true then 1 else 0)) 8 := rfl
    rw [e1, e2, sumN_add, ih, Nat.zero_add]
    congr 1
theorem totN_eq {J J' : Nat → Nat} (h : ∀ c, c < 24 → J c = J' c) : sumN (fun c => popN (J c)) 24 = totN J' := by
  rw [tot_pop]
  exact sumN_cong (fun k _ => cntN_cong (fun i hi => by rw [Nat.zero_add]; exact dotB_cong h k i hi))
theorem totN_le (J : Nat → Nat) : totN J ≤ 192 := sumN_le 8 (fun k _ => amtN_le J k)
theorem amt_tot (J : Nat → Nat) {k : Nat} (hk : k < 8) : amtN J k ≤ totN J := by
  have : ∀ n, k < n → amtN J k ≤ sumN (fun k => amtN J k) n := by
    intro n
    induction n with
    | zero => intro h; omega
    | succ n ih =>
      intro h
      show _ ≤ sumN (fun k => amtN J k) n + amtN J n
      by_cases q : k = n
      · subst q
        omega
      · have := ih (by omega)
        omega
  exact this 8 hk
/-! Integer.bitCount -/
def ush (x : Int32) (k : Nat) : Int32 := (x.toUInt32 >>> ((nI k).toUInt32 &&& Int32.toUInt32 31)).toInt32
def bc1 (x : Int32) : Int32 := x - (ush x 1 &&& 1431655765)
def bc2 (x : Int32) : Int32 := (x &&& 858993459) + (ush x 2 &&& 858993459)
def bc3 (x : Int32) : Int32 := (x + ush x 4) &&& 252645135
def bc4 (x : Int32) : Int32 := x + ush x 8
def bc5 (x : Int32) : Int32 := (x + ush x 16) &&& nI 63
def bcF (x : Int32) : Int32 := bc5 (bc4 (bc3 (bc2 (bc1 x))))
theorem bc8 : ∀ v, v < 256 → bcF (nI v) = nI (popN v) := by decide +kernel
section S7
variable {ε : gv_E} {d : Nat} {Qs : Option Value → List va_E → Prop} {sw : List va_E} {s : shT}
theorem sp_bitCount (x : Int32) (hq : Qs (some (.int (bcF x))) sw) : gv_S ε d m_J6_bitCount_0f7a4 [.int x] sw Qs := by
  refine gv_S.go rfl ?_
  refine t_J6_bitCount_0f7a4_0 (t_J6_bitCount_0f7a4_1 (t_J6_bitCount_0f7a4_2 (t_J6_bitCount_0f7a4_3 (t_J6_bitCount_0f7a4_4 (t_J6_bitCount_0f7a4_7 (t_J6_bitCount_0f7a4_8 (t_J6_bitCount_0f7a4_9 (t_J6_bitCount_0f7a4_10 (t_J6_bitCount_0f7a4_11 (t_J6_bitCount_0f7a4_14 (t_J6_bitCount_0f7a4_15 (t_J6_bitCount_0f7a4_16 (t_J6_bitCount_0f7a4_17 (t_J6_bitCount_0f7a4_18 (t_J6_bitCount_0f7a4_21 (t_J6_bitCount_0f7a4_22 (t_J6_bitCount_0f7a4_23 (t_J6_bitCount_0f7a4_24 (t_J6_bitCount_0f7a4_25 (t_J6_bitCount_0f7a4_26 (t_J6_bitCount_0f7a4_27 (t_J6_bitCount_0f7a4_28 (t_J6_bitCount_0f7a4_29 (t_J6_bitCount_0f7a4_32 (t_J6_bitCount_0f7a4_33 (t_J6_bitCount_0f7a4_34 (t_J6_bitCount_0f7a4_35 (t_J6_bitCount_0f7a4_36 (t_J6_bitCount_0f7a4_38 (t_J6_bitCount_0f7a4_39 (t_J6_bitCount_0f7a4_40 (t_J6_bitCount_0f7a4_41 (t_J6_bitCount_0f7a4_42 (t_J6_bitCount_0f7a4_43 (t_J6_bitCount_0f7a4_45 (t_J6_bitCount_0f7a4_46 (t_J6_bitCount_0f7a4_47 (t_J6_bitCount_0f7a4_48 (t_J6_bitCount_0f7a4_49 (t_J6_bitCount_0f7a4_51 (t_J6_bitCount_0f7a4_52 ?_)))))))))))))))))))))))))))))))))))))))))
  exact hq
theorem sp_X6_total {J : Nat → Nat} (hS : wt 22 (stF J) sw) (hJ : ∀ c, c < 24 → J c ≤ 255) (hq : Qs (some (.int (nI (totN J)))) sw) : gv_S ε (d + 1) m_X6_total [.ref 22] sw Qs := by
  have h6 : sw[22]? = some (.inr (6, [.ref 23])) := hS.at 0 rfl
  have hA : sw[23]? = some (.inl (0, 24, .inl (fun i => nI (J i)))) := hS.at 1 rfl
  have loop : ∀ (n c : Nat), c + n = 24 → gv_M ε (d + 1) m_X6_total sw.length Qs 4 [some (.ref 22), some (.int (nI (sumN (fun c => popN (J c)) c))), some (.int (nI c))] [] sw 0 0 := by
    intro n
    induction n with
    | zero =>
      intro c hc
      refine t_X6_total_4 (t_X6_total_5 (t_X6_total_7N (by omega) (by omega) (fun h => ?_) (fun h => absurd h (by omega))))
      refine t_X6_total_28 (t_X6_total_29 ?_)
      rw [show c = 24 by omega, totN_eq (J' := J) (fun _ _ => rfl)]
      exact hq
    | succ n ih =>
      intro c hc
      refine t_X6_total_4 (t_X6_total_5 (t_X6_total_7N (by omega) (by omega) (fun h => absurd h (by omega)) (fun h => ?_)))
      refine t_X6_total_10 (t_X6_total_11 (t_X6_total_12 h6 rfl (t_X6_total_15 (t_X6_total_16 hA c (by omega) rfl (by decide) (t_X6_total_17 (Nat.le_of_ble_eq_true rfl) (sp_bitCount _ ?_))))))
      have := hJ c (by omega)
      rw [bc8 _ (by omega)]
      refine t_X6_total_20N (t_X6_total_21 (t_X6_total_22N (t_X6_total_25 (?_))))
      exact ih (c + 1) (by omega)
  refine gv_S.go rfl ?_
  refine t_X6_total_0 (t_X6_total_1 (t_X6_total_2 (t_X6_total_3 (?_))))
  exact loop 24 0 (by decide)
theorem sp_X7_wear (x : Int32) (hc : cls s sw) (hs : scr sw) (h1 : ∀ k, k < 8 → x = nI k → ∀ sw', scr sw' → same 22 12 sw sw' → Qs (some (.int (nI (sumN (fun l => amtN (inkN s l) k) s.2.2.2.2)))) sw') (h0 : (∀ k, k < 8 → x ≠ nI k) → Qs (some (.int (-1))) sw) : gv_S ε (d + 4) m_X7_wear [.ref 0, .int x] sw Qs := by
  refine gv_S.go rfl ?_
  refine t_X7_wear_0 (t_X7_wear_1 (Nat.le_of_ble_eq_true rfl) (sp_X7_isNeedle x (fun k hk e => ?_) (fun h => ?_)))
  · subst e
    have hn := hc.2.2.2.2.2.2.1
    have loop : ∀ (n l : Nat) (sw2 : List va_E), l + n = s.2.2.2.2 → scr sw2 → same 22 12 sw sw2 → gv_M ε (d + 4) m_X7_wear sw.length Qs 13 [some (.ref 0), some (.int (nI k)), some (.int (nI (sumN (fun l => amtN (inkN s l) k) l))), some (.int (nI l))] [] sw2 0 0 := by
      intro n
      induction n with
      | zero =>
        intro l sw2 hl hsc hsm
        have hc2 := hc.keep hsm
        have h7 : sw2[0]? = some (.inr (7, [.ref 1, .ref 3, .ref 8, .ref 13, .ref 17, .ref 20, .ref 21, .ref 22, .ref 24, .ref 27])) := hc2.1.at 0 rfl
        have h4 : sw2[3]? = some (.inr (4, [.ref (3 + 1), .ref (3 + 2), .ref (3 + 3), .ref (3 + 4), .int (nI s.2.2.2.2)])) := hc2.2.1.at 0 rfl
        refine t_X7_wear_13 (t_X7_wear_14 (t_X7_wear_15 h7 rfl (t_X7_wear_18 h4 rfl (t_X7_wear_21N (by omega) (by omega) (fun h => ?_) (fun h => absurd h (by omega))))))
        refine t_X7_wear_53 (t_X7_wear_54 ?_)
        rw [show l = s.2.2.2.2 by omega]
        exact h1 k hk rfl sw2 hsc hsm
      | succ n ih =>
        intro l sw2 hl hsc hsm
        have hc2 := hc.keep hsm
        obtain ⟨J0, A0, lt0, co0, hs1, hs2, hs3⟩ := id hsc
        have h7 : sw2[0]? = some (.inr (7, [.ref 1, .ref 3, .ref 8, .ref 13, .ref 17, .ref 20, .ref 21, .ref 22, .ref 24, .ref 27])) := hc2.1.at 0 rfl
        have h4 : sw2[3]? = some (.inr (4, [.ref (3 + 1), .ref (3 + 2), .ref (3 + 3), .ref (3 + 4), .int (nI s.2.2.2.2)])) := hc2.2.1.at 0 rfl
        have h6 : sw2[22]? = some (.inr (6, [.ref 23])) := hs1.at 0 rfl
        refine t_X7_wear_13 (t_X7_wear_14 (t_X7_wear_15 h7 rfl (t_X7_wear_18 h4 rfl (t_X7_wear_21N (by omega) (by omega) (fun h => absurd h (by omega)) (fun h => ?_)))))
        refine t_X7_wear_24 (t_X7_wear_25 h7 rfl (t_X7_wear_28 (t_X7_wear_29 h7 rfl (t_X7_wear_32 (t_X7_wear_33 h6 (Nat.le_of_ble_eq_true rfl) (sp_X6_lay l hs1 hc2.2.1 hc.2.2 (by omega) (fun J sw3 hJ hw3 hsm3 => ?_)))))))
        have hJ255 : ∀ c, c < 24 → J c ≤ 255 := fun c hcc => by rw [hJ c hcc]; exact inkN_le hc.2.2 l c
        have hsm3' := hsm.tr (hsm3.wide (b' := 22) (n' := 12) (by decide) (by decide))
        have hc3 := hc.keep hsm3'
        have k7 : sw3[0]? = some (.inr (7, [.ref 1, .ref 3, .ref 8, .ref 13, .ref 17, .ref 20, .ref 21, .ref 22, .ref 24, .ref 27])) := hc3.1.at 0 rfl
        have k6 : sw3[22]? = some (.inr (6, [.ref 23])) := hw3.at 0 rfl
        refine t_X7_wear_36 (t_X7_wear_37 (t_X7_wear_38 k7 rfl (t_X7_wear_41 (t_X7_wear_42 k6 (Nat.le_of_ble_eq_true rfl) (sp_X6_amount k hw3 hJ255 hk ?_)))))
        rw [amtN_eq hJ]
        refine t_X7_wear_45N (t_X7_wear_46 (t_X7_wear_47N (t_X7_wear_50 (?_))))
        exact ih (l + 1) sw3 (by omega) (hsc.st hw3 hsm3) hsm3'
    refine t_X7_wear_4 (fun _ => ?_) (fun h => absurd h (by decide))
    refine t_X7_wear_9 (t_X7_wear_10 (t_X7_wear_11 (t_X7_wear_12 (?_))))
    exact loop s.2.2.2.2 0 sw (by omega) hs same.rf
  · refine t_X7_wear_4 (fun h => absurd rfl h) (fun _ => ?_)
    refine t_X7_wear_7 (t_X7_wear_8 ?_)
    exact h0 h
theorem sp_X7_allPasses (hc : cls s sw) (hs : scr sw) (hq : ∀ sw', scr sw' → same 22 12 sw sw' → Qs (some (.int (nI (sumN (fun l => npN (inkN s l) (s.1 1) 8) s.2.2.2.2)))) sw') : gv_S ε (d + 4) m_X7_allPasses [.ref 0] sw Qs := by
  have hn := hc.2.2.2.2.2.2.1
  have loop : ∀ (n l : Nat) (sw2 : List va_E), l + n = s.2.2.2.2 → scr sw2 → same 22 12 sw sw2 → gv_M ε (d + 4) m_X7_allPasses sw.length Qs 4 [some (.ref 0), some (.int (nI (sumN (fun l => npN (inkN s l) (s.1 1) 8) l))), some (.int (nI l))] [] sw2 0 0 := by
    intro n
    induction n with
    | zero =>
      intro l sw2 hl hsc hsm
      have hc2 := hc.keep hsm
      have h7 : sw2[0]? = some (.inr (7, [.ref 1, .ref 3, .ref 8, .ref 13, .ref 17, .ref 20, .ref 21, .ref 22, .ref 24, .ref 27])) := hc2.1.at 0 rfl
      have h4 : sw2[3]? = some (.inr (4, [.ref (3 + 1), .ref (3 + 2), .ref (3 + 3), .ref (3 + 4), .int (nI s.2.2.2.2)])) := hc2.2.1.at 0 rfl
      refine t_X7_allPasses_4 (t_X7_allPasses_5 (t_X7_allPasses_6 h7 rfl (t_X7_allPasses_9 h4 rfl (t_X7_allPasses_12N (by omega) (by omega) (fun h => ?_) (fun h => absurd h (by omega))))))
      refine t_X7_allPasses_29 (t_X7_allPasses_30 ?_)
      rw [show l = s.2.2.2.2 by omega]
      exact hq sw2 hsc hsm
    | succ n ih =>
      intro l sw2 hl hsc hsm
      have hc2 := hc.keep hsm
      have h7 : sw2[0]? = some (.inr (7, [.ref 1, .ref 3, .ref 8, .ref 13, .ref 17, .ref 20, .ref 21, .ref 22, .ref 24, .ref 27])) := hc2.1.at 0 rfl
      have h4 : sw2[3]? = some (.inr (4, [.ref (3 + 1), .ref (3 + 2), .ref (3 + 3), .ref (3 + 4), .int (nI s.2.2.2.2)])) := hc2.2.1.at 0 rfl
      refine t_X7_allPasses_4 (t_X7_allPasses_5 (t_X7_allPasses_6 h7 rfl (t_X7_allPasses_9 h4 rfl (t_X7_allPasses_12N (by omega) (by omega) (fun h => absurd h (by omega)) (fun h => ?_)))))
      refine t_X7_allPasses_15 (t_X7_allPasses_16 (t_X7_allPasses_17 (t_X7_allPasses_18 h7 (Nat.le_of_ble_eq_true rfl) (sp_X7_passesOf l hc2 hsc (by omega) (fun sw3 a b => ?_)))))
      refine t_X7_allPasses_21N (t_X7_allPasses_22 (t_X7_allPasses_23N (t_X7_allPasses_26 (?_))))
      exact ih (l + 1) sw3 (by omega) a (hsm.tr b)
  refine gv_S.go rfl ?_
  refine t_X7_allPasses_0 (t_X7_allPasses_1 (t_X7_allPasses_2 (t_X7_allPasses_3 (?_))))
  exact loop s.2.2.2.2 0 sw (by omega) hs same.rf
theorem sp_X7_allDots (hc : cls s sw) (hs : scr sw) (hq : ∀ sw', scr sw' → same 22 12 sw sw' → Qs (some (.int (nI (sumN (fun l => totN (inkN s l)) s.2.2.2.2)))) sw') : gv_S ε (d + 4) m_X7_allDots [.ref 0] sw Qs := by
  have hn := hc.2.2.2.2.2.2.1
  have loop : ∀ (n l : Nat) (sw2 : List va_E), l + n = s.2.2.2.2 → scr sw2 → same 22 12 sw sw2 → gv_M ε (d + 4) m_X7_allDots sw.length Qs 4 [some (.ref 0), some (.int (nI (sumN (fun l => totN (inkN s l)) l))), some (.int (nI l))] [] sw2 0 0 := by
    intro n
    induction n with
    | zero =>
      intro l sw2 hl hsc hsm
      have hc2 := hc.keep hsm
      have h7 : sw2[0]? = some (.inr (7, [.ref 1, .ref 3, .ref 8, .ref 13, .ref 17, .ref 20, .ref 21, .ref 22, .ref 24, .ref 27])) := hc2.1.at 0 rfl
      have h4 : sw2[3]? = some (.inr (4, [.ref (3 + 1), .ref (3 + 2), .ref (3 + 3), .ref (3 + 4), .int (nI s.2.2.2.2)])) := hc2.2.1.at 0 rfl
      refine t_X7_allDots_4 (t_X7_allDots_5 (t_X7_allDots_6 h7 rfl (t_X7_allDots_9 h4 rfl (t_X7_allDots_12N (by omega) (by omega) (fun h => ?_) (fun h => absurd h (by omega))))))
      refine t_X7_allDots_43 (t_X7_allDots_44 ?_)
      rw [show l = s.2.2.2.2 by omega]
      exact hq sw2 hsc hsm
    | succ n ih =>
      intro l sw2 hl hsc hsm
      have hc2 := hc.keep hsm
      obtain ⟨J0, A0, lt0, co0, hs1, hs2, hs3⟩ := id hsc
      have h7 : sw2[0]? = some (.inr (7, [.ref 1, .ref 3, .ref 8, .ref 13, .ref 17, .ref 20, .ref 21, .ref 22, .ref 24, .ref 27])) := hc2.1.at 0 rfl
      have h4 : sw2[3]? = some (.inr (4, [.ref (3 + 1), .ref (3 + 2), .ref (3 + 3), .ref (3 + 4), .int (nI s.2.2.2.2)])) := hc2.2.1.at 0 rfl
      have h6 : sw2[22]? = some (.inr (6, [.ref 23])) := hs1.at 0 rfl
      refine t_X7_allDots_4 (t_X7_allDots_5 (t_X7_allDots_6 h7 rfl (t_X7_allDots_9 h4 rfl (t_X7_allDots_12N (by omega) (by omega) (fun h => absurd h (by omega)) (fun h => ?_)))))
      refine t_X7_allDots_15 (t_X7_allDots_16 h7 rfl (t_X7_allDots_19 (t_X7_allDots_20 h7 rfl (t_X7_allDots_23 (t_X7_allDots_24 h6 (Nat.le_of_ble_eq_true rfl) (sp_X6_lay l hs1 hc2.2.1 hc.2.2 (by omega) (fun J sw3 hJ hw3 hsm3 => ?_)))))))
      have hJ255 : ∀ c, c < 24 → J c ≤ 255 := fun c hcc => by rw [hJ c hcc]; exact inkN_le hc.2.2 l c
      have hsm3' := hsm.tr (hsm3.wide (b' := 22) (n' := 12) (by decide) (by decide))
      have hc3 := hc.keep hsm3'
      have k7 : sw3[0]? = some (.inr (7, [.ref 1, .ref 3, .ref 8, .ref 13, .ref 17, .ref 20, .ref 21, .ref 22, .ref 24, .ref 27])) := hc3.1.at 0 rfl
      have k6 : sw3[22]? = some (.inr (6, [.ref 23])) := hw3.at 0 rfl
      refine t_X7_allDots_27 (t_X7_allDots_28 (t_X7_allDots_29 k7 rfl (t_X7_allDots_32 k6 (Nat.le_of_ble_eq_true rfl) (sp_X6_total hw3 hJ255 ?_))))
      rw [show totN J = totN (inkN s l) from by rw [← totN_eq hJ, totN_eq (J' := J) (fun _ _ => rfl)]]
      refine t_X7_allDots_35N (t_X7_allDots_36 (t_X7_allDots_37N (t_X7_allDots_40 (?_))))
      exact ih (l + 1) sw3 (by omega) (hsc.st hw3 hsm3) hsm3'
  refine gv_S.go rfl ?_
  refine t_X7_allDots_0 (t_X7_allDots_1 (t_X7_allDots_2 (t_X7_allDots_3 (?_))))
  exact loop s.2.2.2.2 0 sw (by omega) hs same.rf
end S7
