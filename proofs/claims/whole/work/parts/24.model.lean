/-! bits -/
def bitsN (p : Nat → Bool) : Nat → Nat
  | 0 => 0
  | n + 1 => bitsN p n + (if p n = true then 2 ^ n else 0)
theorem bitsN_lt (p : Nat → Bool) : ∀ n, bitsN p n < 2 ^ n := by
  intro n
  induction n with
  | zero => exact Nat.one_pos
  | succ n ih =>
    unfold bitsN
    rw [Nat.pow_succ]
    split <;> omega
theorem bitsN_tb (p : Nat → Bool) : ∀ n i, (bitsN p n).testBit i = (decide (i < n) && p i) := by
  intro n
  induction n with
  | zero => intro i; simp [bitsN]
  | succ n ih =>
    intro i
    unfold bitsN
    by_cases h : p n = true
    · rw [if_pos h]
      have e : bitsN p n + 2 ^ n = 2 ^ n * 1 ||| bitsN p n := by
        rw [← Nat.two_pow_add_eq_or_of_lt (bitsN_lt p n)]
        omega
      rw [e, Nat.testBit_or, Nat.mul_one, Nat.testBit_two_pow, ih]
      by_cases q : i = n
      · subst q
        simp [h]
      · have : (i < n + 1) = (i < n) := by apply propext; omega
        simp [this, Ne.symm q]
    · rw [if_neg h, Nat.add_zero, ih]
      by_cases q : i = n
      · subst q
        simp [h]
      · have : (i < n + 1) = (i < n) := by apply propext; omega
        simp [this]
theorem bitsN_dm (p : Nat → Bool) {n c : Nat} (hc : c < n) : bitsN p n / 2 ^ c % 2 = if p c = true then 1 else 0 := by
  have h := bitsN_tb p n c
  rw [Nat.testBit_eq_decide_div_mod_eq] at h
  rw [decide_eq_true hc, Bool.true_and] at h
  by_cases q : p c = true
  · rw [if_pos q]
    rw [q] at h
    exact of_decide_eq_true h
  · rw [if_neg q]
    have : ¬ (bitsN p n / 2 ^ c % 2 = 1) := fun z => q (by rw [← h]; exact decide_eq_true z)
    omega
theorem bitsN_cong {p q : Nat → Bool} : ∀ {n : Nat}, (∀ i, i < n → p i = q i) → bitsN p n = bitsN q n := by
  intro n
  induction n with
  | zero => intro _; rfl
  | succ n ih =>
    intro h
    unfold bitsN
    rw [ih (fun i hi => h i (by omega)), h n (by omega)]
theorem bitsN_eq {p : Nat → Bool} {n v : Nat} (h : ∀ i, v.testBit i = (decide (i < n) && p i)) : v = bitsN p n := Nat.eq_of_testBit_eq (fun i => by rw [h, bitsN_tb])
theorem bitsN_zero {p : Nat → Bool} {n : Nat} : bitsN p n = 0 ↔ ∀ i, i < n → p i = false := by
  constructor
  · intro h i hi
    have := bitsN_tb p n i
    rw [h] at this
    simpa [hi] using this.symm
  · intro h
    refine Nat.eq_of_testBit_eq (fun i => ?_)
    rw [bitsN_tb]
    by_cases q : i < n
    · simp [h i q]
    · simp [q]
theorem nI_or (a b : Nat) : nI a ||| nI b = nI (a ||| b) := by
  apply Int32.toBitVec_inj.mp
  rw [Int32.toBitVec_or]
  show BitVec.ofNat 32 a ||| BitVec.ofNat 32 b = BitVec.ofNat 32 (a ||| b)
  rw [BitVec.ofNat_or]
theorem nI_and (a b : Nat) : nI a &&& nI b = nI (a &&& b) := by
  apply Int32.toBitVec_inj.mp
  rw [Int32.toBitVec_and]
  show BitVec.ofNat 32 a &&& BitVec.ofNat 32 b = BitVec.ofNat 32 (a &&& b)
  rw [BitVec.ofNat_and]
theorem nI_xor (a b : Nat) : nI a ^^^ nI b = nI (a ^^^ b) := by
  apply Int32.toBitVec_inj.mp
  rw [Int32.toBitVec_xor]
  show BitVec.ofNat 32 a ^^^ BitVec.ofNat 32 b = BitVec.ofNat 32 (a ^^^ b)
  rw [BitVec.ofNat_xor]
theorem nI_sh : ∀ c, c < 31 → nI 1 <<< (nI c &&& 31) = nI (2 ^ c) := by decide +kernel
theorem nI_m1 : (-1 : Int32) = nI (2 ^ 32 - 1) := by decide +kernel
/-- one bit more -/
theorem bits_or (p : Nat → Bool) {c : Nat} : bitsN p c ||| 2 ^ c = bitsN p c + 2 ^ c := by
  have := Nat.two_pow_add_eq_or_of_lt (bitsN_lt p c) 1
  rw [Nat.mul_one] at this
  rw [Nat.or_comm, ← this, Nat.add_comm]
/-! the model's row -/
def qm (r : Nat → Nat) (sw : List va_E) : Prop := ∃ fs, sw[44]? = some (.inr (8, fs)) ∧ fs[0]? = some (.ref 45) ∧ sw[45]? = some (.inl (0, 58, .inl (fun i => nI (r i))))
def roOk (r : Nat → Nat) : Prop := r 0 ≤ 4 ∧ r 1 ≤ 9 ∧ (1 ≤ r 2 ∧ r 2 ≤ 72) ∧ (∀ j, j < 18 → r (3 + j) ≤ 255) ∧ r 21 ≤ 4 ∧ (∀ l, l < 4 → r (22 + l) ≤ 8) ∧ (∀ j, j < 32 → r (26 + j) ≤ 6)
def inkR (r : Nat → Nat) (l c : Nat) : Nat := if c / 3 < r (22 + l) ∧ r (26 + 8 * l + c / 3) ≠ 6 then r (3 + 3 * r (26 + 8 * l + c / 3) + c % 3) else 0
theorem inkR_le {r : Nat → Nat} (h : roOk r) {l c : Nat} (hl : l < 4) (hc : c < 24) : inkR r l c ≤ 255 := by
  unfold inkR
  split
  · rename_i q
    have := h.2.2.2.2.2.2 (8 * l + c / 3) (by omega)
    rw [← Nat.add_assoc] at this
    have h2 := h.2.2.2.1 (3 * r (26 + 8 * l + c / 3) + c % 3) (by omega)
    rwa [← Nat.add_assoc] at h2
  · exact Nat.zero_le _
section S8
variable {ε : gv_E} {d : Nat} {Qs : Option Value → List va_E → Prop} {sw : List va_E} {r : Nat → Nat}
theorem sp_X8_in (x a b : Int32) (h1 : a ≤ x → x ≤ b → Qs (some (.int (nI 1))) sw) (h0 : ¬ (a ≤ x ∧ x ≤ b) → Qs (some (.int (nI 0))) sw) : gv_S ε d m_X8_in [.int x, .int a, .int b] sw Qs := by
  refine gv_S.go rfl ?_
  refine t_X8_in_0 (t_X8_in_1 (t_X8_in_2 (fun h => ?_) (fun h => ?_)))
  · refine t_X8_in_14 (t_X8_in_15 rfl (h0 (fun q => ?_)))
    have := q.1
    rw [Int32.le_iff_toInt_le] at this
    rw [Int32.lt_iff_toInt_lt] at h
    omega
  · refine t_X8_in_5 (t_X8_in_6 (t_X8_in_7 (fun g => ?_) (fun g => ?_)))
    · refine t_X8_in_14 (t_X8_in_15 rfl (h0 (fun q => ?_)))
      have := q.2
      rw [Int32.le_iff_toInt_le] at this
      rw [Int32.lt_iff_toInt_lt] at g
      omega
    · refine t_X8_in_10 (t_X8_in_11 (t_X8_in_15 rfl (h1 ?_ ?_)))
      · rw [Int32.le_iff_toInt_le]
        rw [Int32.lt_iff_toInt_lt] at h
        omega
      · rw [Int32.le_iff_toInt_le]
        rw [Int32.lt_iff_toInt_lt] at g
        omega
theorem sp_X8_inN (x : Int32) (b : Nat) (hb : b < 2 ^ 31) (h1 : ∀ j, j ≤ b → x = nI j → Qs (some (.int (nI 1))) sw) (h0 : (∀ j, j ≤ b → x ≠ nI j) → Qs (some (.int (nI 0))) sw) : gv_S ε d m_X8_in [.int x, .int (nI 0), .int (nI b)] sw Qs := by
  refine sp_X8_in x _ _ (fun g1 g2 => ?_) (fun g => h0 (fun j hj e => g ?_))
  · obtain ⟨j, hj, e⟩ := nI_of (x := x) (fun q => by
      rw [Int32.le_iff_toInt_le, nI_toInt (by decide)] at g1
      rw [Int32.lt_iff_toInt_lt, Int32.toInt_zero] at q
      omega)
    subst e
    exact h1 j ((nI_leI hj hb).mp g2) rfl
  · rw [e]
    exact ⟨nI_le (Nat.zero_le _) (by omega), nI_le hj hb⟩
theorem sp_X8_has (v k : Nat) (hv : v < 2 ^ 31) (hk : k < 32) (hq : Qs (some (.int (nI (v / 2 ^ k % 2)))) sw) : gv_S ε d m_X8_has [.int (nI v), .int (nI k)] sw Qs := by
  refine gv_S.go rfl ?_
  refine t_X8_has_0 (t_X8_has_1 (t_X8_has_2 (t_X8_has_3 (t_X8_has_4 (t_X8_has_5 (t_X8_has_6 (fun h => ?_) (fun h => ?_)))))))
  · rw [bit_iff hv hk] at h
    refine t_X8_has_13 (t_X8_has_14 rfl ?_)
    have e : v / 2 ^ k % 2 = 0 := by
      have : v / 2 ^ k % 2 ≠ 1 := fun q => h (by rw [q])
      omega
    rw [e] at hq
    exact hq
  · rw [bit_iff hv hk] at h
    refine t_X8_has_9 (t_X8_has_10 (t_X8_has_14 rfl ?_))
    rw [nI_inj (by omega) (by decide) h] at hq
    exact hq
theorem sp_X8_isLine (x : Int32) (hm : qm r sw) (hr : r 21 ≤ 4) (h1 : ∀ j, j < r 21 → x = nI j → Qs (some (.int (nI 1))) sw) (h0 : (∀ j, j < r 21 → x ≠ nI j) → Qs (some (.int (nI 0))) sw) : gv_S ε (d + 1) m_X8_isLine [.ref 44, .int x] sw Qs := by
  obtain ⟨fs, h8, hf, hN⟩ := hm
  refine gv_S.go rfl ?_
  by_cases z : r 21 = 0
  · refine t_X8_isLine_0 (t_X8_isLine_1 (t_X8_isLine_2 (t_X8_isLine_3 h8 hf (t_X8_isLine_6 (t_X8_isLine_8 hN 21 (by decide) rfl (by decide) (t_X8_isLine_9 (t_X8_isLine_10 (t_X8_isLine_11 (Nat.le_of_ble_eq_true rfl) (sp_X8_in x _ _ (fun g1 g2 => ?_) (fun g => ?_))))))))))
    · exfalso
      rw [Int32.le_iff_toInt_le] at g1 g2
      rw [z] at g2
      have a1 : (nI 0 - nI 1).toInt = -1 := by decide
      have a2 : (nI 0).toInt = 0 := by decide
      omega
    · refine t_X8_isLine_14 rfl ?_
      exact h0 (fun j hj => absurd hj (by omega))
  · refine t_X8_isLine_0 (t_X8_isLine_1 (t_X8_isLine_2 (t_X8_isLine_3 h8 hf (t_X8_isLine_6 (t_X8_isLine_8 hN 21 (by decide) rfl (by decide) (t_X8_isLine_9 (t_X8_isLine_10N (by omega) (t_X8_isLine_11 (Nat.le_of_ble_eq_true rfl) (sp_X8_inN x (r 21 - 1) (by omega) (fun j hj e => ?_) (fun g => ?_))))))))))
    · refine t_X8_isLine_14 rfl ?_
      exact h1 j (by omega) e
    · refine t_X8_isLine_14 rfl ?_
      exact h0 (fun j hj => g j (by omega))
theorem sp_X8_dotsAt (l c : Nat) (hm : qm r sw) (hr : roOk r) (hl : l < 4) (hc : c < 24) (hq : Qs (some (.int (nI (inkR r l c)))) sw) : gv_S ε d m_X8_dotsAt [.ref 44, .int (nI l), .int (nI c)] sw Qs := by
  obtain ⟨fs, h8, hf, hN⟩ := hm
  obtain ⟨o1, o2, o3, o4, o5, o6, o7⟩ := hr
  have q6 := o6 l hl
  have q7 := o7 (8 * l + c / 3) (by omega)
  rw [← Nat.add_assoc] at q7
  refine gv_S.go rfl ?_
  refine t_X8_dotsAt_0 (t_X8_dotsAt_1 (t_X8_dotsAt_2N (by omega) (by decide) (by decide) (t_X8_dotsAt_3 (t_X8_dotsAt_4 (t_X8_dotsAt_5 (t_X8_dotsAt_6 h8 hf (t_X8_dotsAt_9 (t_X8_dotsAt_11 (t_X8_dotsAt_12N (t_X8_dotsAt_13 hN (22 + l) (by omega) rfl (by decide) (t_X8_dotsAt_14N (by omega) (by omega) (fun h => ?_) (fun h => ?_))))))))))))
  · refine t_X8_dotsAt_36 (t_X8_dotsAt_37 ?_)
    have e : inkR r l c = 0 := by
      unfold inkR
      rw [if_neg (fun q => by omega)]
    rw [e] at hq
    exact hq
  · refine t_X8_dotsAt_17 (t_X8_dotsAt_18 h8 hf (t_X8_dotsAt_21 (t_X8_dotsAt_23 (t_X8_dotsAt_25 (t_X8_dotsAt_26N (t_X8_dotsAt_27N (t_X8_dotsAt_28 (t_X8_dotsAt_29N (t_X8_dotsAt_30 hN (26 + 8 * l + c / 3) (by omega) rfl (by decide) (t_X8_dotsAt_31 (t_X8_dotsAt_33N (by omega) (by omega) (fun g => ?_) (fun g => ?_))))))))))))
    · have q8 := o4 (3 * r (26 + 8 * l + c / 3) + c % 3) (by omega)
      refine t_X8_dotsAt_38 (t_X8_dotsAt_39 h8 hf (t_X8_dotsAt_42 (t_X8_dotsAt_43 (t_X8_dotsAt_44 (t_X8_dotsAt_45 h8 hf (t_X8_dotsAt_48 (t_X8_dotsAt_50 (t_X8_dotsAt_52 (t_X8_dotsAt_53N (t_X8_dotsAt_54N (t_X8_dotsAt_55 (t_X8_dotsAt_56N (t_X8_dotsAt_57 hN (26 + 8 * l + c / 3) (by omega) rfl (by decide) (t_X8_dotsAt_58N (t_X8_dotsAt_59N (t_X8_dotsAt_60 (t_X8_dotsAt_61 (t_X8_dotsAt_62N (by omega) (by decide) (by decide) (t_X8_dotsAt_63N (t_X8_dotsAt_64 hN (3 + 3 * r (26 + 8 * l + c / 3) + c % 3) (by omega) rfl (by decide) (t_X8_dotsAt_65 ?_)))))))))))))))))))))
      have e : inkR r l c = r (3 + 3 * r (26 + 8 * l + c / 3) + c % 3) := by
        unfold inkR
        rw [if_pos ⟨h, g⟩]
      rw [e] at hq
      exact hq
    · refine t_X8_dotsAt_36 (t_X8_dotsAt_37 ?_)
      have e : inkR r l c = 0 := by
        unfold inkR
        rw [if_neg (fun q => by omega)]
      rw [e] at hq
      exact hq
theorem sp_X8_columnsOf (l k : Nat) (hm : qm r sw) (hr : roOk r) (hl : l < 4) (hk : k < 8) (hq : Qs (some (.int (nI (bitsN (dotB (inkR r l) k) 24)))) sw) : gv_S ε (d + 1) m_X8_columnsOf [.ref 44, .int (nI l), .int (nI k)] sw Qs := by
  obtain ⟨fs, h8, hf, hN⟩ := id hm
  have loop : ∀ (n c : Nat), c + n = 24 → gv_M ε (d + 1) m_X8_columnsOf sw.length Qs 5 [some (.ref 44), some (.int (nI l)), some (.int (nI k)), some (.int (nI (bitsN (dotB (inkR r l) k) c))), some (.int (nI c))] [] sw 0 0 := by
    intro n
    induction n with
    | zero =>
      intro c hc
      refine t_X8_columnsOf_5 (t_X8_columnsOf_7 (t_X8_columnsOf_9N (by omega) (by omega) (fun h => ?_) (fun h => absurd h (by omega))))
      refine t_X8_columnsOf_43 (t_X8_columnsOf_44 ?_)
      rw [show c = 24 by omega]
      exact hq
    | succ n ih =>
      intro c hc
      have hi := inkR_le hr hl (c := c) (by omega)
      refine t_X8_columnsOf_5 (t_X8_columnsOf_7 (t_X8_columnsOf_9N (by omega) (by omega) (fun h => absurd h (by omega)) (fun h => ?_)))
      refine t_X8_columnsOf_12 (t_X8_columnsOf_13 (t_X8_columnsOf_14 (t_X8_columnsOf_15 (t_X8_columnsOf_17 h8 (Nat.le_of_ble_eq_true rfl) (sp_X8_dotsAt l c hm hr hl (by omega) ?_)))))
      refine t_X8_columnsOf_20 (t_X8_columnsOf_21 (Nat.le_of_ble_eq_true rfl) (sp_X8_has _ k (by omega) (by omega) ?_))
      have := ih (c + 1) (by omega)
      unfold bitsN at this
      by_cases q : inkR r l c / 2 ^ k % 2 = 1
      · rw [if_pos (show dotB (inkR r l) k c = true from beq_iff_eq.mpr q)] at this
        rw [q]
        refine t_X8_columnsOf_24 (fun h => absurd h (by decide)) (fun _ => ?_)
        refine t_X8_columnsOf_27 (t_X8_columnsOf_28 (t_X8_columnsOf_30 (t_X8_columnsOf_31 (?_))))
        rw [nI_sh c (by omega)]
        refine t_X8_columnsOf_35 (?_)
        rw [nI_or, bits_or]
        refine t_X8_columnsOf_36 (t_X8_columnsOf_37N (t_X8_columnsOf_40 (?_)))
        exact this
      · rw [if_neg (show ¬ dotB (inkR r l) k c = true from fun z => q (beq_iff_eq.mp z)), Nat.add_zero] at this
        rw [show inkR r l c / 2 ^ k % 2 = 0 by omega]
        refine t_X8_columnsOf_24 (fun _ => ?_) (fun h => absurd rfl h)
        refine t_X8_columnsOf_34 (t_X8_columnsOf_35 (?_))
        rw [nI_or, Nat.or_zero]
        refine t_X8_columnsOf_36 (t_X8_columnsOf_37N (t_X8_columnsOf_40 (?_)))
        exact this
  refine gv_S.go rfl ?_
  refine t_X8_columnsOf_0 (t_X8_columnsOf_1 (t_X8_columnsOf_2 (t_X8_columnsOf_3 (?_))))
  exact loop 24 0 (by decide)
end S8
