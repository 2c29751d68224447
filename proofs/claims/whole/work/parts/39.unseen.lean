/-! which needle is stuck -/
def siF (kn : Nat) (ln nu : Nat → Nat) : List va_E := [.inr (5, [.ref 18, .ref 19, .int (nI kn)]), .inl (0, 6, .inl (fun i => nI (ln i))), .inl (0, 6, .inl (fun i => nI (nu i)))]
def siOk (kn : Nat) (ln nu : Nat → Nat) : Prop := kn ≤ 6 ∧ ∀ i, i < kn → ln i < 4 ∧ nu i ≤ 192
abbrev xpP (I : Nat → Nat → Nat) (m l n k : Nat) : Prop := l < m ∧ totN (I l) = n + amtN (I l) k
def unB (I : Nat → Nat → Nat) (m : Nat) (ln nu : Nat → Nat) (k : Nat) : Nat → Bool
  | 0 => true
  | i + 1 => unB I m ln nu k i && decide (xpP I m (ln i) (nu i) k)
def unV (I : Nat → Nat → Nat) (m : Nat) (ln nu : Nat → Nat) (kn : Nat) : Nat := bitsN (fun k => unB I m ln nu k kn) 8
theorem unV_lt (I : Nat → Nat → Nat) (m : Nat) (ln nu : Nat → Nat) (kn : Nat) : unV I m ln nu kn < 256 := bitsN_lt _ 8
theorem bitsN_and (p q : Nat → Bool) (n : Nat) : bitsN p n &&& bitsN q n = bitsN (fun k => p k && q k) n := by
  refine bitsN_eq (fun i => ?_)
  rw [Nat.testBit_and, bitsN_tb, bitsN_tb]
  cases decide (i < n) <;> simp
theorem amtN_congr {J J' : Nat → Nat} (h : ∀ c, c < 24 → J c = J' c) (k : Nat) : amtN J k = amtN J' k := cntN_cong (fun i hi => by rw [Nat.zero_add]; exact dotB_cong h k i hi)
theorem totN_congr {J J' : Nat → Nat} (h : ∀ c, c < 24 → J c = J' c) : totN J = totN J' := sumN_cong (fun k _ => amtN_congr h k)
theorem xpP_cong {I I' : Nat → Nat → Nat} {m : Nat} (h : ∀ l, l < m → ∀ c, c < 24 → I l c = I' l c) (l n k : Nat) : xpP I m l n k ↔ xpP I' m l n k := by
  constructor
  · rintro ⟨a, b⟩
    exact ⟨a, by rw [← totN_congr (h l a), ← amtN_congr (h l a)]; exact b⟩
  · rintro ⟨a, b⟩
    exact ⟨a, by rw [totN_congr (h l a), amtN_congr (h l a)]; exact b⟩
theorem unB_cong {I I' : Nat → Nat → Nat} {m : Nat} {ln nu : Nat → Nat} (h : ∀ l, l < m → ∀ c, c < 24 → I l c = I' l c) (k : Nat) : ∀ i, unB I m ln nu k i = unB I' m ln nu k i := by
  intro i
  induction i with
  | zero => rfl
  | succ i ih =>
    unfold unB
    rw [ih, decide_eq_decide.mpr (xpP_cong h (ln i) (nu i) k)]
theorem unV_cong {I I' : Nat → Nat → Nat} {m : Nat} {ln nu : Nat → Nat} (h : ∀ l, l < m → ∀ c, c < 24 → I l c = I' l c) (kn : Nat) : unV I m ln nu kn = unV I' m ln nu kn := bitsN_cong (fun k _ => unB_cong h k kn)
/-- the numbers that needles of the set have -/
def exA (J : Nat → Nat) (v : Nat) : Nat → Nat → Bool
  | 0, _ => false
  | n + 1, a => exA J v n a || (decide (v / 2 ^ n % 2 = 1) && decide (a = amtN J n))
def fsB (J : Nat → Nat) (v a : Nat) : Bool := decide (v / 2 ^ a % 2 = 1) && !(exA J v a (amtN J a))
def unlN (J : Nat → Nat) (v : Nat) : Nat := cntN (fsB J v) 0 8
theorem exA_congr {J J' : Nat → Nat} (h : ∀ c, c < 24 → J c = J' c) (v : Nat) : ∀ n a, exA J v n a = exA J' v n a := by
  intro n
  induction n with
  | zero => intro a; rfl
  | succ n ih =>
    intro a
    unfold exA
    rw [ih, amtN_congr h]
theorem unlN_congr {J J' : Nat → Nat} (h : ∀ c, c < 24 → J c = J' c) (v : Nat) : unlN J v = unlN J' v := cntN_cong (fun i _ => by unfold fsB; rw [exA_congr h, amtN_congr h])
theorem unlN_le (J : Nat → Nat) (v : Nat) : unlN J v ≤ 8 := cntN_le _ _ _
theorem cntN_one {p q : Nat → Bool} {a : Nat} (hp : p a = false) (hq : ∀ i, q i = (p i || decide (i = a))) : ∀ n, cntN q 0 n = cntN p 0 n + (if a < n then 1 else 0) := by
  intro n
  induction n with
  | zero => rfl
  | succ n ih =>
    unfold cntN
    rw [ih, Nat.zero_add, hq n]
    by_cases e : n = a
    · subst e
      rw [hp]
      simp
    · have : (a < n + 1) = (a < n) := by apply propext; omega
      simp only [this]
      rw [decide_eq_false e, Bool.or_false]
      omega
theorem cntN_no {p : Nat → Bool} {a : Nat} (h : ∀ i, p i = false) : ∀ n, cntN p a n = 0 := by
  intro n
  induction n with
  | zero => rfl
  | succ n ih =>
    unfold cntN
    rw [ih, h, if_neg (by decide)]
theorem exA_cnt (J : Nat → Nat) (v : Nat) : ∀ n, cntN (exA J v n) 0 32 = cntN (fsB J v) 0 n := by
  intro n
  induction n with
  | zero => exact cntN_no (fun _ => rfl) 32
  | succ n ih =>
    have e2 : cntN (fsB J v) 0 (n + 1) = cntN (fsB J v) 0 n + (if fsB J v n = true then 1 else 0) := by
      show cntN (fsB J v) 0 n + (if fsB J v (0 + n) = true then 1 else 0) = _
      rw [Nat.zero_add]
    rw [e2, ← ih]
    have ha := amtN_le J n
    by_cases hb : v / 2 ^ n % 2 = 1
    · by_cases hx : exA J v n (amtN J n) = true
      · rw [if_neg (by unfold fsB; rw [hx]; simp), Nat.add_zero]
        refine cntN_cong (p := exA J v (n + 1)) (q := exA J v n) (a := 0) (n := 32) (fun i _ => ?_)
        show (exA J v n (0 + i) || _) = _
        by_cases e : 0 + i = amtN J n
        · rw [e, hx]
          rfl
        · rw [decide_eq_false e, Bool.and_false, Bool.or_false]
      · have hx' : exA J v n (amtN J n) = false := by simpa using hx
        rw [if_pos (by unfold fsB; rw [hx', decide_eq_true hb]; rfl)]
        have := cntN_one (p := exA J v n) (q := exA J v (n + 1)) (a := amtN J n) hx' (fun i => by
          show (exA J v n i || _) = _
          rw [decide_eq_true hb, Bool.true_and]) 32
        rw [if_pos (by omega)] at this
        exact this
    · rw [if_neg (by unfold fsB; rw [decide_eq_false hb]; simp), Nat.add_zero]
      refine cntN_cong (p := exA J v (n + 1)) (q := exA J v n) (a := 0) (n := 32) (fun i _ => ?_)
      show (exA J v n (0 + i) || _) = _
      rw [decide_eq_false hb, Bool.false_and, Bool.or_false]
theorem exA_or (J : Nat → Nat) (v n : Nat) (hb : v / 2 ^ n % 2 = 1) : bitsN (exA J v n) 32 ||| 2 ^ amtN J n = bitsN (exA J v (n + 1)) 32 := by
  have ha := amtN_le J n
  refine bitsN_eq (fun i => ?_)
  rw [Nat.testBit_or, bitsN_tb, Nat.testBit_two_pow]
  show _ = (decide (i < 32) && (exA J v n i || (decide (v / 2 ^ n % 2 = 1) && decide (i = amtN J n))))
  rw [decide_eq_true hb, Bool.true_and]
  by_cases e : i = amtN J n
  · subst e
    rw [decide_eq_true (show amtN J n < 32 by omega)]
    simp
  · have e' : ¬ amtN J n = i := fun z => e z.symm
    rw [decide_eq_false e, decide_eq_false e']
    simp
theorem exA_no (J : Nat → Nat) (v n : Nat) (hb : ¬ v / 2 ^ n % 2 = 1) : bitsN (exA J v n) 32 = bitsN (exA J v (n + 1)) 32 := by
  refine bitsN_cong (fun i _ => ?_)
  show _ = (exA J v n i || (decide (v / 2 ^ n % 2 = 1) && decide (i = amtN J n)))
  rw [decide_eq_false hb, Bool.false_and, Bool.or_false]
theorem bits8 : bitsN (fun _ => true) 8 = 255 := by decide
theorem two_ok : ∀ v, v < 256 → ((nI v &&& (nI v - nI 1)) = 0 ↔ popN v < 2) := by decide +kernel
section S7
variable {ε : gv_E} {d : Nat} {Qs : Option Value → List va_E → Prop} {sw : List va_E} {s : shT}
theorem sp_X7_explaining (l n : Nat) (hc : cls s sw) (hs : scr sw) (hl : l < 4) (hn : n ≤ 192) (hq : ∀ sw', scr sw' → same 22 12 sw sw' → Qs (some (.int (nI (bitsN (fun k => decide (xpP (inkN s) s.2.2.2.2 l n k)) 8)))) sw') : gv_S ε (d + 4) m_X7_explaining [.ref 0, .int (nI l), .int (nI n)] sw Qs := by
  obtain ⟨J0, A0, lt0, co0, hs1, hs2, hs3⟩ := id hs
  have h7 : sw[0]? = some (.inr (7, [.ref 1, .ref 3, .ref 8, .ref 13, .ref 17, .ref 20, .ref 21, .ref 22, .ref 24, .ref 27])) := hc.1.at 0 rfl
  have h4 : sw[3]? = some (.inr (4, [.ref (3 + 1), .ref (3 + 2), .ref (3 + 3), .ref (3 + 4), .int (nI s.2.2.2.2)])) := hc.2.1.at 0 rfl
  have h6 : sw[22]? = some (.inr (6, [.ref 23])) := hs1.at 0 rfl
  have hm := hc.2.2.2.2.2.2.1
  refine gv_S.go rfl ?_
  refine t_X7_explaining_0 (t_X7_explaining_1 h7 rfl (t_X7_explaining_4 (t_X7_explaining_5 h4 (Nat.le_of_ble_eq_true rfl) (sp_X4_hasLine (nI l) hc.2.1 hm (fun j hj e => ?_) (fun h => ?_)))))
  · have e2 := nI_inj (by omega) (by omega) e
    subst e2
    refine t_X7_explaining_8 (fun _ => ?_) (fun h => absurd h (by decide))
    refine t_X7_explaining_13 (t_X7_explaining_14 h7 rfl (t_X7_explaining_17 (t_X7_explaining_18 h7 rfl (t_X7_explaining_21 (t_X7_explaining_22 h6 (Nat.le_of_ble_eq_true rfl) (sp_X6_lay l hs1 hc.2.1 hc.2.2 hj (fun J sw1 hJ hw1 hsm1 => ?_)))))))
    have hJ255 : ∀ c, c < 24 → J c ≤ 255 := fun c hcc => by rw [hJ c hcc]; exact inkN_le hc.2.2 l c
    have hsc1 := hs.st hw1 hsm1
    have hsm1' := hsm1.wide (b' := 22) (n' := 12) (by decide) (by decide)
    have hc1 := hc.keep hsm1'
    have k7 : sw1[0]? = some (.inr (7, [.ref 1, .ref 3, .ref 8, .ref 13, .ref 17, .ref 20, .ref 21, .ref 22, .ref 24, .ref 27])) := hc1.1.at 0 rfl
    have k6 : sw1[22]? = some (.inr (6, [.ref 23])) := hw1.at 0 rfl
    have ht := totN_congr hJ
    have htl := totN_le (inkN s l)
    refine t_X7_explaining_25 (t_X7_explaining_26 k7 rfl (t_X7_explaining_29 k6 (Nat.le_of_ble_eq_true rfl) (sp_X6_total hw1 hJ255 ?_)))
    rw [ht]
    have loop : ∀ (m k : Nat), k + m = 8 → gv_M ε (d + 4) m_X7_explaining sw.length Qs 39 [some (.ref 0), some (.int (nI l)), some (.int (nI n)), some (.int (nI (totN (inkN s l)))), some (.int (nI (bitsN (fun k => decide (xpP (inkN s) s.2.2.2.2 l n k)) k))), some (.int (nI k))] [] sw1 0 0 := by
      intro m
      induction m with
      | zero =>
        intro k hk
        refine t_X7_explaining_39 (t_X7_explaining_41 (t_X7_explaining_43N (by omega) (by omega) (fun h => ?_) (fun h => absurd h (by omega))))
        refine t_X7_explaining_76 (t_X7_explaining_78 ?_)
        rw [show k = 8 by omega]
        exact hq sw1 hsc1 hsm1'
      | succ m ih =>
        intro k hk
        have hat := amt_tot (inkN s l) (k := k) (by omega)
        have := ih (k + 1) (by omega)
        unfold bitsN at this
        refine t_X7_explaining_39 (t_X7_explaining_41 (t_X7_explaining_43N (by omega) (by omega) (fun h => absurd h (by omega)) (fun h => ?_)))
        refine t_X7_explaining_46 (t_X7_explaining_47 (t_X7_explaining_48 k7 rfl (t_X7_explaining_51 (t_X7_explaining_53 k6 (Nat.le_of_ble_eq_true rfl) (sp_X6_amount k hw1 hJ255 (by omega) ?_)))))
        rw [amtN_eq hJ]
        refine t_X7_explaining_56N (by omega) (t_X7_explaining_57 (t_X7_explaining_58N (by omega) (by omega) (fun g => ?_) (fun g => ?_)))
        · refine t_X7_explaining_70N (t_X7_explaining_73 (?_))
          rw [if_neg (fun z => by
            have := (of_decide_eq_true z).2
            omega)] at this
          exact this
        · refine t_X7_explaining_61 (t_X7_explaining_63 (t_X7_explaining_64 (t_X7_explaining_66 (?_))))
          rw [nI_sh k (by omega)]
          refine t_X7_explaining_67 (?_)
          rw [nI_or, bits_or]
          refine t_X7_explaining_68 (t_X7_explaining_70N (t_X7_explaining_73 (?_)))
          rw [if_pos (decide_eq_true ⟨hj, by omega⟩)] at this
          exact this
    refine t_X7_explaining_32 (t_X7_explaining_33 (t_X7_explaining_34 (t_X7_explaining_36 (t_X7_explaining_37 (?_)))))
    exact loop 8 0 (by decide)
  · refine t_X7_explaining_8 (fun h => absurd rfl h) (fun _ => ?_)
    refine t_X7_explaining_11 (t_X7_explaining_12 ?_)
    have e : bitsN (fun k => decide (xpP (inkN s) s.2.2.2.2 l n k)) 8 = 0 := bitsN_zero.mpr (fun i _ => decide_eq_false (fun z => h l z.1 rfl))
    have := hq sw hs same.rf
    rw [e] at this
    exact this
theorem sp_X7_suspects {kn : Nat} {ln nu : Nat → Nat} (hc : cls s sw) (hs : scr sw) (hS : wt 17 (siF kn ln nu) sw) (hS2 : siOk kn ln nu) (hq : ∀ sw', scr sw' → same 22 12 sw sw' → Qs (some (.int (nI (unV (inkN s) s.2.2.2.2 ln nu kn)))) sw') : gv_S ε (d + 5) m_X7_suspects [.ref 0] sw Qs := by
  obtain ⟨q1, q2⟩ := hS2
  have loop : ∀ (n i : Nat) (sw2 : List va_E), i + n = kn → scr sw2 → same 22 12 sw sw2 → gv_M ε (d + 5) m_X7_suspects sw.length Qs 6 [some (.ref 0), some (.int (nI (unV (inkN s) s.2.2.2.2 ln nu i))), some (.int (nI i))] [] sw2 0 0 := by
    intro n
    induction n with
    | zero =>
      intro i sw2 hi hsc hsm
      have hc2 := hc.keep hsm
      have hS2 := hS.keep hsm rfl
      have h7 : sw2[0]? = some (.inr (7, [.ref 1, .ref 3, .ref 8, .ref 13, .ref 17, .ref 20, .ref 21, .ref 22, .ref 24, .ref 27])) := hc2.1.at 0 rfl
      have h5 : sw2[17]? = some (.inr (5, [.ref 18, .ref 19, .int (nI kn)])) := hS2.at 0 rfl
      refine t_X7_suspects_6 (t_X7_suspects_7 (t_X7_suspects_8 h7 rfl (t_X7_suspects_11 h5 rfl (t_X7_suspects_14N (by omega) (by omega) (fun h => ?_) (fun h => absurd h (by omega))))))
      refine t_X7_suspects_48 (t_X7_suspects_49 ?_)
      rw [show i = kn by omega]
      exact hq sw2 hsc hsm
    | succ n ih =>
      intro i sw2 hi hsc hsm
      have hc2 := hc.keep hsm
      have hS2 := hS.keep hsm rfl
      have h7 : sw2[0]? = some (.inr (7, [.ref 1, .ref 3, .ref 8, .ref 13, .ref 17, .ref 20, .ref 21, .ref 22, .ref 24, .ref 27])) := hc2.1.at 0 rfl
      have h5 : sw2[17]? = some (.inr (5, [.ref 18, .ref 19, .int (nI kn)])) := hS2.at 0 rfl
      have hA : sw2[18]? = some (.inl (0, 6, .inl (fun i => nI (ln i)))) := hS2.at 1 rfl
      have hB : sw2[19]? = some (.inl (0, 6, .inl (fun i => nI (nu i)))) := hS2.at 2 rfl
      obtain ⟨q3, q4⟩ := q2 i (by omega)
      refine t_X7_suspects_6 (t_X7_suspects_7 (t_X7_suspects_8 h7 rfl (t_X7_suspects_11 h5 rfl (t_X7_suspects_14N (by omega) (by omega) (fun h => absurd h (by omega)) (fun h => ?_)))))
      refine t_X7_suspects_17 (t_X7_suspects_18 (t_X7_suspects_19 (t_X7_suspects_20 h7 rfl (t_X7_suspects_23 h5 rfl (t_X7_suspects_26 (t_X7_suspects_27 hA i (by omega) rfl (by decide) (t_X7_suspects_28 (t_X7_suspects_29 h7 rfl (t_X7_suspects_32 h5 rfl (t_X7_suspects_35 (t_X7_suspects_36 hB i (by omega) rfl (by decide) (t_X7_suspects_37 h7 (Nat.le_of_ble_eq_true rfl) (sp_X7_explaining (ln i) (nu i) hc2 hsc q3 q4 (fun sw3 a b => ?_))))))))))))))
      refine t_X7_suspects_40 (?_)
      rw [nI_and, unV, bitsN_and]
      refine t_X7_suspects_41 (t_X7_suspects_42N (t_X7_suspects_45 (?_)))
      exact ih (i + 1) sw3 (by omega) a (hsm.tr b)
  refine gv_S.go rfl ?_
  refine t_X7_suspects_0 (t_X7_suspects_3 (t_X7_suspects_4 (t_X7_suspects_5 (?_))))
  exact loop kn 0 sw (by omega) hs same.rf
theorem sp_X7_unseen {kn : Nat} {ln nu : Nat → Nat} (hc : cls s sw) (hs : scr sw) (hS : wt 17 (siF kn ln nu) sw) (hS2 : siOk kn ln nu) (hq : ∀ sw', scr sw' → same 22 12 sw sw' → Qs (some (.int (nI (unV (inkN s) s.2.2.2.2 ln nu kn)))) sw') : gv_S ε (d + 6) m_X7_unseen [.ref 0] sw Qs := by
  have h7 : sw[0]? = some (.inr (7, [.ref 1, .ref 3, .ref 8, .ref 13, .ref 17, .ref 20, .ref 21, .ref 22, .ref 24, .ref 27])) := hc.1.at 0 rfl
  refine gv_S.go rfl ?_
  refine t_X7_unseen_0 (t_X7_unseen_1 h7 (Nat.le_of_ble_eq_true rfl) (sp_X7_suspects hc hs hS hS2 (fun sw1 a b => ?_)))
  refine t_X7_unseen_4 ?_
  exact hq sw1 a b
theorem sp_X7_unlikeNumbers (l v : Nat) (hc : cls s sw) (hs : scr sw) (hl : l < s.2.2.2.2) (hv : v < 256) (hq : ∀ sw', scr sw' → same 22 12 sw sw' → Qs (some (.int (nI (unlN (inkN s l) v)))) sw') : gv_S ε (d + 4) m_X7_unlikeNumbers [.ref 0, .int (nI l), .int (nI v)] sw Qs := by
  obtain ⟨J0, A0, lt0, co0, hs1, hs2, hs3⟩ := id hs
  have h7 : sw[0]? = some (.inr (7, [.ref 1, .ref 3, .ref 8, .ref 13, .ref 17, .ref 20, .ref 21, .ref 22, .ref 24, .ref 27])) := hc.1.at 0 rfl
  have h6 : sw[22]? = some (.inr (6, [.ref 23])) := hs1.at 0 rfl
  refine gv_S.go rfl ?_
  refine t_X7_unlikeNumbers_0 (t_X7_unlikeNumbers_1 h7 rfl (t_X7_unlikeNumbers_4 (t_X7_unlikeNumbers_5 h7 rfl (t_X7_unlikeNumbers_8 (t_X7_unlikeNumbers_9 h6 (Nat.le_of_ble_eq_true rfl) (sp_X6_lay l hs1 hc.2.1 hc.2.2 hl (fun J sw1 hJ hw1 hsm1 => ?_)))))))
  have hJ255 : ∀ c, c < 24 → J c ≤ 255 := fun c hcc => by rw [hJ c hcc]; exact inkN_le hc.2.2 l c
  have hsc1 := hs.st hw1 hsm1
  have hsm1' := hsm1.wide (b' := 22) (n' := 12) (by decide) (by decide)
  have hc1 := hc.keep hsm1'
  have k7 : sw1[0]? = some (.inr (7, [.ref 1, .ref 3, .ref 8, .ref 13, .ref 17, .ref 20, .ref 21, .ref 22, .ref 24, .ref 27])) := hc1.1.at 0 rfl
  have k6 : sw1[22]? = some (.inr (6, [.ref 23])) := hw1.at 0 rfl
  have loop : ∀ (m k : Nat), k + m = 8 → gv_M ε (d + 4) m_X7_unlikeNumbers sw.length Qs 17 [some (.ref 0), some (.int (nI l)), some (.int (nI v)), some (.int (nI (bitsN (exA (inkN s l) v k) 32))), some (.int (nI k))] [] sw1 0 0 := by
    intro m
    induction m with
    | zero =>
      intro k hk
      refine t_X7_unlikeNumbers_17 (t_X7_unlikeNumbers_19 (t_X7_unlikeNumbers_21N (by omega) (by omega) (fun h => ?_) (fun h => absurd h (by omega))))
      refine t_X7_unlikeNumbers_54 (t_X7_unlikeNumbers_55 (Nat.le_of_ble_eq_true rfl) (sp_bitCount _ ?_))
      rw [bcG, show k = 8 by omega, exA_cnt]
      refine t_X7_unlikeNumbers_58 ?_
      exact hq sw1 hsc1 hsm1'
    | succ m ih =>
      intro k hk
      have := ih (k + 1) (by omega)
      refine t_X7_unlikeNumbers_17 (t_X7_unlikeNumbers_19 (t_X7_unlikeNumbers_21N (by omega) (by omega) (fun h => absurd h (by omega)) (fun h => ?_)))
      refine t_X7_unlikeNumbers_24 (t_X7_unlikeNumbers_25 (t_X7_unlikeNumbers_27 (t_X7_unlikeNumbers_28 (t_X7_unlikeNumbers_29 (?_)))))
      rw [bit_iff (by omega) (by omega)]
      refine t_X7_unlikeNumbers_30 (t_X7_unlikeNumbers_31N (by omega) (by omega) (fun g => ?_) (fun g => ?_))
      · refine t_X7_unlikeNumbers_48N (t_X7_unlikeNumbers_51 (?_))
        rw [← exA_no _ _ _ g] at this
        exact this
      · have hal := amtN_le (inkN s l) k
        refine t_X7_unlikeNumbers_34 (t_X7_unlikeNumbers_35 (t_X7_unlikeNumbers_36 (t_X7_unlikeNumbers_37 k7 rfl (t_X7_unlikeNumbers_40 (t_X7_unlikeNumbers_42 k6 (Nat.le_of_ble_eq_true rfl) (sp_X6_amount k hw1 hJ255 (by omega) ?_))))))
        rw [amtN_eq hJ]
        refine t_X7_unlikeNumbers_45 (?_)
        rw [nI_sh _ (by omega)]
        refine t_X7_unlikeNumbers_46 (?_)
        rw [nI_or, exA_or _ _ _ g]
        refine t_X7_unlikeNumbers_47 (t_X7_unlikeNumbers_48N (t_X7_unlikeNumbers_51 (?_)))
        exact this
  have e0 : bitsN (exA (inkN s l) v 0) 32 = 0 := bitsN_zero.mpr (fun i _ => rfl)
  have fin := loop 8 0 (by decide)
  rw [e0] at fin
  refine t_X7_unlikeNumbers_12 (t_X7_unlikeNumbers_13 (t_X7_unlikeNumbers_14 (t_X7_unlikeNumbers_15 (?_))))
  exact fin
theorem sp_X7_ask {kn : Nat} {ln nu : Nat → Nat} (hc : cls s sw) (hs : scr sw) (hS : wt 17 (siF kn ln nu) sw) (hS2 : siOk kn ln nu) (h0 : popN (unV (inkN s) s.2.2.2.2 ln nu kn) < 2 → ∀ sw', scr sw' → same 22 12 sw sw' → Qs (some (.int (-9))) sw') (h1 : ¬ popN (unV (inkN s) s.2.2.2.2 ln nu kn) < 2 → ∀ m a, fMax (fun l => unlN (inkN s l) (unV (inkN s) s.2.2.2.2 ln nu kn)) s.2.2.2.2 m a → ∀ sw', scr sw' → same 22 12 sw sw' → Qs (some (.int (if m = 0 then -9 else nI a))) sw') : gv_S ε (d + 6) m_X7_ask [.ref 0] sw Qs := by
  have h7 : sw[0]? = some (.inr (7, [.ref 1, .ref 3, .ref 8, .ref 13, .ref 17, .ref 20, .ref 21, .ref 22, .ref 24, .ref 27])) := hc.1.at 0 rfl
  have hn := hc.2.2.2.2.2.2.1
  refine gv_S.go rfl ?_
  refine t_X7_ask_0 (t_X7_ask_1 h7 (Nat.le_of_ble_eq_true rfl) (sp_X7_suspects hc hs hS hS2 (fun sw1 a b => ?_)))
  have hv := unV_lt (inkN s) s.2.2.2.2 ln nu kn
  generalize unV (inkN s) s.2.2.2.2 ln nu kn = v at h0 h1 hv ⊢
  have hp := popN_le v
  refine t_X7_ask_4 (t_X7_ask_5 (t_X7_ask_6 (Nat.le_of_ble_eq_true rfl) (sp_bitCount _ ?_)))
  rw [bc8 v hv]
  refine t_X7_ask_9 (t_X7_ask_10N (by omega) (by omega) (fun h => ?_) (fun h => ?_))
  · have loop : ∀ (n l m a : Nat) (a5 : Option Value) (sw2 : List va_E), l + n = s.2.2.2.2 → m ≤ 8 → fMax (fun l => unlN (inkN s l) v) l m a → scr sw2 → same 22 12 sw sw2 → gv_M ε (d + 6) m_X7_ask sw.length Qs 24 [some (.ref 0), some (.int (nI v)), some (.int (if m = 0 then -9 else nI a)), some (.int (nI m)), some (.int (nI l)), a5] [] sw2 0 0 := by
      intro n
      induction n with
      | zero =>
        intro l m a a5 sw2 hl hm hf hsc hsm
        have hc2 := hc.keep hsm
        have h7 : sw2[0]? = some (.inr (7, [.ref 1, .ref 3, .ref 8, .ref 13, .ref 17, .ref 20, .ref 21, .ref 22, .ref 24, .ref 27])) := hc2.1.at 0 rfl
        have h4 : sw2[3]? = some (.inr (4, [.ref (3 + 1), .ref (3 + 2), .ref (3 + 3), .ref (3 + 4), .int (nI s.2.2.2.2)])) := hc2.2.1.at 0 rfl
        refine t_X7_ask_24 (t_X7_ask_26 (t_X7_ask_27 h7 rfl (t_X7_ask_30 h4 rfl (t_X7_ask_33N (by omega) (by omega) (fun h => ?_) (fun h => absurd h (by omega))))))
        refine t_X7_ask_63 (t_X7_ask_64 ?_)
        have e : l = s.2.2.2.2 := by omega
        subst e
        exact h1 (by omega) m a hf sw2 hsc hsm
      | succ n ih =>
        intro l m a a5 sw2 hl hm hf hsc hsm
        have hc2 := hc.keep hsm
        have h7 : sw2[0]? = some (.inr (7, [.ref 1, .ref 3, .ref 8, .ref 13, .ref 17, .ref 20, .ref 21, .ref 22, .ref 24, .ref 27])) := hc2.1.at 0 rfl
        have h4 : sw2[3]? = some (.inr (4, [.ref (3 + 1), .ref (3 + 2), .ref (3 + 3), .ref (3 + 4), .int (nI s.2.2.2.2)])) := hc2.2.1.at 0 rfl
        refine t_X7_ask_24 (t_X7_ask_26 (t_X7_ask_27 h7 rfl (t_X7_ask_30 h4 rfl (t_X7_ask_33N (by omega) (by omega) (fun h => absurd h (by omega)) (fun h => ?_)))))
        have hu := unlN_le (inkN s l) v
        refine t_X7_ask_36 (t_X7_ask_37 (t_X7_ask_39 (t_X7_ask_40 h7 (Nat.le_of_ble_eq_true rfl) (sp_X7_unlikeNumbers l v hc2 hsc (by omega) hv (fun sw3 a3 b3 => ?_)))))
        refine t_X7_ask_43 (t_X7_ask_45 (t_X7_ask_47 (t_X7_ask_48N (by omega) (by omega) (fun g => ?_) (fun g => ?_))))
        · refine t_X7_ask_57N (t_X7_ask_60 (?_))
          exact ih (l + 1) m a _ sw3 (by omega) hm (fMax_no hf g) a3 (hsm.tr b3)
        · refine t_X7_ask_51 (t_X7_ask_53 (t_X7_ask_54 (t_X7_ask_56 (t_X7_ask_57N (t_X7_ask_60 (?_))))))
          have := ih (l + 1) (unlN (inkN s l) v) l (some (.int (nI (unlN (inkN s l) v)))) sw3 (by omega) hu (fMax_up hf g) a3 (hsm.tr b3)
          rw [if_neg (by omega)] at this
          exact this
    refine t_X7_ask_16 (t_X7_ask_18 (t_X7_ask_19 (t_X7_ask_20 (t_X7_ask_21 (t_X7_ask_22 (?_))))))
    exact loop s.2.2.2.2 0 0 0 _ sw1 (by omega) (by omega) ⟨fun q hq => absurd hq (by omega), Or.inl rfl⟩ a b
  · refine t_X7_ask_13 (t_X7_ask_15 ?_)
    exact h0 (by omega) sw1 a b
end S7
