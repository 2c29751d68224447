/-! the way: least seeks, of several the first -/
def dst (x y : Int) : Int := if x ≤ y then y - x else x - y
theorem dst_bd {x y : Int} (hx : -30 ≤ x ∧ x ≤ 30) (hy : -30 ≤ y ∧ y ≤ 30) : 0 ≤ dst x y ∧ dst x y ≤ 60 := by
  unfold dst
  split <;> omega
/-- the least seeks over the last m of n spans, from h on -/
def cst (n : Nat) (a b : Nat → Int) : Nat → Int → Int
  | 0, _ => 0
  | m + 1, h => if dst h (a (n - (m + 1))) + cst n a b m (b (n - (m + 1))) ≤ dst h (b (n - (m + 1))) + cst n a b m (a (n - (m + 1))) then dst h (a (n - (m + 1))) + cst n a b m (b (n - (m + 1))) else dst h (b (n - (m + 1))) + cst n a b m (a (n - (m + 1)))
/-- the choices of it, the earlier the higher bit -/
def cdN (n : Nat) (a b : Nat → Int) : Nat → Int → Nat
  | 0, _ => 0
  | m + 1, h => if dst h (a (n - (m + 1))) + cst n a b m (b (n - (m + 1))) ≤ dst h (b (n - (m + 1))) + cst n a b m (a (n - (m + 1))) then cdN n a b m (b (n - (m + 1))) else 2 ^ m + cdN n a b m (a (n - (m + 1)))
theorem cst_s (n : Nat) (a b : Nat → Int) (m : Nat) (h : Int) : cst n a b (m + 1) h = if dst h (a (n - (m + 1))) + cst n a b m (b (n - (m + 1))) ≤ dst h (b (n - (m + 1))) + cst n a b m (a (n - (m + 1))) then dst h (a (n - (m + 1))) + cst n a b m (b (n - (m + 1))) else dst h (b (n - (m + 1))) + cst n a b m (a (n - (m + 1))) := rfl
theorem cdN_s (n : Nat) (a b : Nat → Int) (m : Nat) (h : Int) : cdN n a b (m + 1) h = if dst h (a (n - (m + 1))) + cst n a b m (b (n - (m + 1))) ≤ dst h (b (n - (m + 1))) + cst n a b m (a (n - (m + 1))) then cdN n a b m (b (n - (m + 1))) else 2 ^ m + cdN n a b m (a (n - (m + 1))) := rfl
def spOk (a b : Nat → Int) : Prop := ∀ k, (-30 ≤ a k ∧ a k ≤ 30) ∧ (-30 ≤ b k ∧ b k ≤ 30)
theorem cst_bd {n : Nat} {a b : Nat → Int} (hab : spOk a b) : ∀ m h, -30 ≤ h ∧ h ≤ 30 → 0 ≤ cst n a b m h ∧ cst n a b m h ≤ 60 * m := by
  intro m
  induction m with
  | zero => intro h _; exact ⟨Int.le_refl _, by simp [cst]⟩
  | succ m ih =>
    intro h hh
    obtain ⟨h1, h2⟩ := hab (n - (m + 1))
    have d1 := dst_bd hh h1
    have d2 := dst_bd hh h2
    have c1 := ih _ h1
    have c2 := ih _ h2
    rw [cst_s]
    split <;> omega
theorem cdN_lt {n : Nat} {a b : Nat → Int} : ∀ m h, cdN n a b m h < 2 ^ m := by
  intro m
  induction m with
  | zero => intro h; exact Nat.one_pos
  | succ m ih =>
    intro h
    rw [cdN_s, Nat.pow_succ]
    have c1 := ih (b (n - (m + 1)))
    have c2 := ih (a (n - (m + 1)))
    split <;> omega
/-- from left to right -/
def rtP (n : Nat) (a b : Nat → Int) (k : Nat) (h : Int) : Prop := dst h (a k) + cst n a b (n - (k + 1)) (b k) ≤ dst h (b k) + cst n a b (n - (k + 1)) (a k)
def rtB (n : Nat) (a b : Nat → Int) (k : Nat) (h : Int) : Bool := decide (dst h (a k) + cst n a b (n - (k + 1)) (b k) ≤ dst h (b k) + cst n a b (n - (k + 1)) (a k))
theorem cst_at {n : Nat} {a b : Nat → Int} {k : Nat} {h : Int} (hk : k < n) : cst n a b (n - k) h = if rtB n a b k h = true then dst h (a k) + cst n a b (n - (k + 1)) (b k) else dst h (b k) + cst n a b (n - (k + 1)) (a k) := by
  have e : n - k = (n - (k + 1)) + 1 := by omega
  have e2 : n - ((n - (k + 1)) + 1) = k := by omega
  rw [e, cst_s, e2]
  unfold rtB
  by_cases q : dst h (a k) + cst n a b (n - (k + 1)) (b k) ≤ dst h (b k) + cst n a b (n - (k + 1)) (a k)
  · rw [if_pos q, if_pos (decide_eq_true q)]
  · rw [if_neg q, if_neg (by simpa using q)]
theorem cdN_at {n : Nat} {a b : Nat → Int} {k : Nat} {h : Int} (hk : k < n) : cdN n a b (n - k) h = if rtB n a b k h = true then cdN n a b (n - (k + 1)) (b k) else 2 ^ (n - (k + 1)) + cdN n a b (n - (k + 1)) (a k) := by
  have e : n - k = (n - (k + 1)) + 1 := by omega
  have e2 : n - ((n - (k + 1)) + 1) = k := by omega
  rw [e, cdN_s, e2]
  unfold rtB
  by_cases q : dst h (a k) + cst n a b (n - (k + 1)) (b k) ≤ dst h (b k) + cst n a b (n - (k + 1)) (a k)
  · rw [if_pos q, if_pos (decide_eq_true q)]
  · rw [if_neg q, if_neg (by simpa using q)]
/-- the head ahead of pass k; seeks and lengths till then -/
def pthZ (n : Nat) (a b : Nat → Int) : Nat → Int
  | 0 => 0
  | k + 1 => if rtB n a b k (pthZ n a b k) = true then b k else a k
def skZ (n : Nat) (a b : Nat → Int) : Nat → Int
  | 0 => 0
  | k + 1 => skZ n a b k + (if rtB n a b k (pthZ n a b k) = true then dst (pthZ n a b k) (a k) else dst (pthZ n a b k) (b k))
def stZ (a b : Nat → Int) : Nat → Int
  | 0 => 0
  | k + 1 => stZ a b k + (b k - a k)
def preN (n : Nat) (a b : Nat → Int) : Nat → Nat
  | 0 => 0
  | k + 1 => 2 * preN n a b k + (if rtB n a b k (pthZ n a b k) = true then 0 else 1)
theorem pthZ_s (n : Nat) (a b : Nat → Int) (k : Nat) : pthZ n a b (k + 1) = if rtB n a b k (pthZ n a b k) = true then b k else a k := rfl
theorem skZ_s (n : Nat) (a b : Nat → Int) (k : Nat) : skZ n a b (k + 1) = skZ n a b k + (if rtB n a b k (pthZ n a b k) = true then dst (pthZ n a b k) (a k) else dst (pthZ n a b k) (b k)) := rfl
theorem preN_s (n : Nat) (a b : Nat → Int) (k : Nat) : preN n a b (k + 1) = 2 * preN n a b k + (if rtB n a b k (pthZ n a b k) = true then 0 else 1) := rfl
theorem pthZ_bd {n : Nat} {a b : Nat → Int} (hab : spOk a b) : ∀ k, -30 ≤ pthZ n a b k ∧ pthZ n a b k ≤ 30 := by
  intro k
  induction k with
  | zero => exact ⟨show (-30 : Int) ≤ 0 by decide, show (0 : Int) ≤ 30 by decide⟩
  | succ k ih =>
    rw [pthZ_s]
    have := hab k
    split
    · exact this.2
    · exact this.1
theorem skZ_eq {n : Nat} {a b : Nat → Int} : ∀ k, k ≤ n → skZ n a b k + cst n a b (n - k) (pthZ n a b k) = cst n a b n 0 := by
  intro k
  induction k with
  | zero => intro _; show 0 + cst n a b (n - 0) 0 = _; rw [Nat.sub_zero, Int.zero_add]
  | succ k ih =>
    intro hk
    have := ih (by omega)
    rw [cst_at (by omega)] at this
    rw [skZ_s, pthZ_s]
    by_cases q : rtB n a b k (pthZ n a b k) = true
    · rw [if_pos q] at this ⊢
      rw [if_pos q]
      omega
    · rw [if_neg q] at this ⊢
      rw [if_neg q]
      omega
theorem preN_eq {n : Nat} {a b : Nat → Int} : ∀ k, k ≤ n → preN n a b k * 2 ^ (n - k) + cdN n a b (n - k) (pthZ n a b k) = cdN n a b n 0 := by
  intro k
  induction k with
  | zero => intro _; show 0 * _ + cdN n a b (n - 0) 0 = _; rw [Nat.sub_zero, Nat.zero_mul, Nat.zero_add]
  | succ k ih =>
    intro hk
    have := ih (by omega)
    rw [cdN_at (by omega)] at this
    have e : 2 ^ (n - k) = 2 * 2 ^ (n - (k + 1)) := by
      rw [show n - k = (n - (k + 1)) + 1 by omega, Nat.pow_succ, Nat.mul_comm]
    rw [e] at this
    have e3 : preN n a b k * (2 * 2 ^ (n - (k + 1))) = 2 * preN n a b k * 2 ^ (n - (k + 1)) := by
      rw [← Nat.mul_assoc, Nat.mul_comm (preN n a b k) 2]
    rw [e3] at this
    rw [preN_s, pthZ_s]
    by_cases q : rtB n a b k (pthZ n a b k) = true
    · rw [if_pos q] at this ⊢
      rw [if_pos q, Nat.add_zero]
      exact this
    · rw [if_neg q] at this ⊢
      rw [if_neg q, Nat.add_mul, Nat.one_mul]
      omega
theorem code_bit {n : Nat} {a b : Nat → Int} {k : Nat} (hk : k < n) : cdN n a b n 0 / 2 ^ (n - 1 - k) % 2 = if rtB n a b k (pthZ n a b k) = true then 0 else 1 := by
  have h := preN_eq (n := n) (a := a) (b := b) (k + 1) (by omega)
  rw [show n - (k + 1) = n - 1 - k by omega] at h
  have hlt := cdN_lt (n := n) (a := a) (b := b) (n - 1 - k) (pthZ n a b (k + 1))
  have e : cdN n a b n 0 / 2 ^ (n - 1 - k) = preN n a b (k + 1) := by
    rw [← h, Nat.mul_comm, Nat.mul_add_div (Nat.pow_pos (by decide)), Nat.div_eq_of_lt hlt, Nat.add_zero]
  rw [e, preN_s]
  split <;> omega
/-! forwards, by costs and choices -/
def lexle (A : Int) (X : Nat) (B : Int) (Y : Nat) : Prop := A < B ∨ (A = B ∧ X ≤ Y)
def isMin (T : Int) (K : Nat) (A : Int) (X : Nat) (B : Int) (Y : Nat) : Prop := ((A = T ∧ X = K) ∨ (B = T ∧ Y = K)) ∧ lexle T K A X ∧ lexle T K B Y
/-- the invariant behind k passes: costs c0, c1 and choices x0, x1 of the two ends h0, h1 -/
def dpI (n : Nat) (a b : Nat → Int) (k : Nat) (c0 c1 h0 h1 : Int) (x0 x1 : Nat) : Prop := isMin (cst n a b n 0) (cdN n a b n 0) (c0 + cst n a b (n - k) h0) (x0 * 2 ^ (n - k) + cdN n a b (n - k) h0) (c1 + cst n a b (n - k) h1) (x1 * 2 ^ (n - k) + cdN n a b (n - k) h1)
theorem dp_two {n : Nat} {a b : Nat → Int} {k : Nat} {h c : Int} {x : Nat} (hk : k < n) : (c + cst n a b (n - k) h = c + dst h (a k) + cst n a b (n - (k + 1)) (b k) ∧ x * 2 ^ (n - k) + cdN n a b (n - k) h = 2 * x * 2 ^ (n - (k + 1)) + cdN n a b (n - (k + 1)) (b k) ∨ c + cst n a b (n - k) h = c + dst h (b k) + cst n a b (n - (k + 1)) (a k) ∧ x * 2 ^ (n - k) + cdN n a b (n - k) h = (2 * x + 1) * 2 ^ (n - (k + 1)) + cdN n a b (n - (k + 1)) (a k)) ∧ lexle (c + cst n a b (n - k) h) (x * 2 ^ (n - k) + cdN n a b (n - k) h) (c + dst h (a k) + cst n a b (n - (k + 1)) (b k)) (2 * x * 2 ^ (n - (k + 1)) + cdN n a b (n - (k + 1)) (b k)) ∧ lexle (c + cst n a b (n - k) h) (x * 2 ^ (n - k) + cdN n a b (n - k) h) (c + dst h (b k) + cst n a b (n - (k + 1)) (a k)) ((2 * x + 1) * 2 ^ (n - (k + 1)) + cdN n a b (n - (k + 1)) (a k)) := by
  have e : 2 ^ (n - k) = 2 * 2 ^ (n - (k + 1)) := by
    rw [show n - k = (n - (k + 1)) + 1 by omega, Nat.pow_succ, Nat.mul_comm]
  have e3 : x * (2 * 2 ^ (n - (k + 1))) = 2 * x * 2 ^ (n - (k + 1)) := by
    rw [← Nat.mul_assoc, Nat.mul_comm x 2]
  have e4 : (2 * x + 1) * 2 ^ (n - (k + 1)) = 2 * x * 2 ^ (n - (k + 1)) + 2 ^ (n - (k + 1)) := by rw [Nat.add_mul, Nat.one_mul]
  have l1 := cdN_lt (n := n) (a := a) (b := b) (n - (k + 1)) (b k)
  rw [cst_at hk, cdN_at hk, e, e3, e4]
  generalize 2 * x * 2 ^ (n - (k + 1)) = u
  generalize hp : 2 ^ (n - (k + 1)) = pw at *
  generalize hA : dst h (a k) = A
  generalize hB : dst h (b k) = B
  unfold rtB lexle
  rw [hA, hB]
  generalize cst n a b (n - (k + 1)) (b k) = cb at *
  generalize cst n a b (n - (k + 1)) (a k) = ca at *
  generalize cdN n a b (n - (k + 1)) (b k) = xb at *
  generalize cdN n a b (n - (k + 1)) (a k) = xa at *
  by_cases q : A + cb ≤ B + ca
  · rw [if_pos (decide_eq_true q), if_pos (decide_eq_true q)]
    omega
  · rw [if_neg (by simpa using q), if_neg (by simpa using q)]
    omega
theorem dp_pick {t0 t1 B : Int} {x0 x1 i X pw : Nat} (hpw : 0 < pw) : (if t0 < t1 ∨ (t0 = t1 ∧ x0 ≤ x1) then lexle (t0 + B) ((2 * x0 + i) * pw + X) (t1 + B) ((2 * x1 + i) * pw + X) else lexle (t1 + B) ((2 * x1 + i) * pw + X) (t0 + B) ((2 * x0 + i) * pw + X)) := by
  unfold lexle
  split
  · rename_i q
    rcases q with q | ⟨q1, q2⟩
    · exact Or.inl (by omega)
    · refine Or.inr ⟨by omega, ?_⟩
      have := Nat.mul_le_mul_right pw (show 2 * x0 + i ≤ 2 * x1 + i by omega)
      omega
  · rename_i q
    rcases Int.lt_trichotomy t0 t1 with z | z | z
    · exact absurd (Or.inl z) q
    · have hx : x1 ≤ x0 := by
        rcases Nat.le_total x0 x1 with y | y
        · exact absurd (Or.inr ⟨z, y⟩) q
        · exact y
      refine Or.inr ⟨by omega, ?_⟩
      have := Nat.mul_le_mul_right pw (show 2 * x1 + i ≤ 2 * x0 + i by omega)
      omega
    · exact Or.inl (by omega)
theorem lexle_trans {A B C : Int} {X Y W : Nat} (h1 : lexle A X B Y) (h2 : lexle B Y C W) : lexle A X C W := by
  unfold lexle at *
  omega
theorem lexle_anti {A B : Int} {X Y : Nat} (h1 : lexle A X B Y) (h2 : lexle B Y A X) : A = B ∧ X = Y := by
  unfold lexle at *
  omega
theorem lex_fin {T : Int} {K : Nat} {P : Int} {Q : Nat} {A : Int} {X : Nat} (hnew : lexle T K P Q) (e1 : A = T) (e2 : X = K) (z : lexle P Q A X) : P = T ∧ Q = K := by
  subst e1
  subst e2
  exact lexle_anti z hnew
theorem dp_step {n : Nat} {a b : Nat → Int} {k : Nat} {c0 c1 h0 h1 : Int} {x0 x1 : Nat} (hk : k < n) (h : dpI n a b k c0 c1 h0 h1 x0 x1) :
    dpI n a b (k + 1) (if c0 + dst h0 (a k) < c1 + dst h1 (a k) ∨ (c0 + dst h0 (a k) = c1 + dst h1 (a k) ∧ x0 ≤ x1) then c0 + dst h0 (a k) else c1 + dst h1 (a k)) (if c0 + dst h0 (b k) < c1 + dst h1 (b k) ∨ (c0 + dst h0 (b k) = c1 + dst h1 (b k) ∧ x0 ≤ x1) then c0 + dst h0 (b k) else c1 + dst h1 (b k)) (b k) (a k) (2 * (if c0 + dst h0 (a k) < c1 + dst h1 (a k) ∨ (c0 + dst h0 (a k) = c1 + dst h1 (a k) ∧ x0 ≤ x1) then x0 else x1)) (2 * (if c0 + dst h0 (b k) < c1 + dst h1 (b k) ∨ (c0 + dst h0 (b k) = c1 + dst h1 (b k) ∧ x0 ≤ x1) then x0 else x1) + 1) := by
  obtain ⟨hor, hl0, hl1⟩ := h
  obtain ⟨t0, u0, v0⟩ := dp_two (n := n) (a := a) (b := b) (h := h0) (c := c0) (x := x0) hk
  obtain ⟨t1, u1, v1⟩ := dp_two (n := n) (a := a) (b := b) (h := h1) (c := c1) (x := x1) hk
  have hpw : 0 < 2 ^ (n - (k + 1)) := Nat.pow_pos (by decide)
  have pk0 := dp_pick (t0 := c0 + dst h0 (a k)) (t1 := c1 + dst h1 (a k)) (B := cst n a b (n - (k + 1)) (b k)) (x0 := x0) (x1 := x1) (i := 0) (X := cdN n a b (n - (k + 1)) (b k)) hpw
  have pk1 := dp_pick (t0 := c0 + dst h0 (b k)) (t1 := c1 + dst h1 (b k)) (B := cst n a b (n - (k + 1)) (a k)) (x0 := x0) (x1 := x1) (i := 1) (X := cdN n a b (n - (k + 1)) (a k)) hpw
  rw [Nat.add_zero, Nat.add_zero] at pk0
  have m00 := lexle_trans hl0 u0
  have m01 := lexle_trans hl0 v0
  have m10 := lexle_trans hl1 u1
  have m11 := lexle_trans hl1 v1
  unfold dpI isMin
  -- the new left-to-right one
  have new0 : lexle (cst n a b n 0) (cdN n a b n 0) ((if c0 + dst h0 (a k) < c1 + dst h1 (a k) ∨ (c0 + dst h0 (a k) = c1 + dst h1 (a k) ∧ x0 ≤ x1) then c0 + dst h0 (a k) else c1 + dst h1 (a k)) + cst n a b (n - (k + 1)) (b k)) (2 * (if c0 + dst h0 (a k) < c1 + dst h1 (a k) ∨ (c0 + dst h0 (a k) = c1 + dst h1 (a k) ∧ x0 ≤ x1) then x0 else x1) * 2 ^ (n - (k + 1)) + cdN n a b (n - (k + 1)) (b k)) := by
    split
    · exact m00
    · exact m10
  have new1 : lexle (cst n a b n 0) (cdN n a b n 0) ((if c0 + dst h0 (b k) < c1 + dst h1 (b k) ∨ (c0 + dst h0 (b k) = c1 + dst h1 (b k) ∧ x0 ≤ x1) then c0 + dst h0 (b k) else c1 + dst h1 (b k)) + cst n a b (n - (k + 1)) (a k)) ((2 * (if c0 + dst h0 (b k) < c1 + dst h1 (b k) ∨ (c0 + dst h0 (b k) = c1 + dst h1 (b k) ∧ x0 ≤ x1) then x0 else x1) + 1) * 2 ^ (n - (k + 1)) + cdN n a b (n - (k + 1)) (a k)) := by
    split
    · exact m01
    · exact m11
  refine ⟨?_, new0, new1⟩
  have rf : ∀ {A : Int} {X : Nat}, lexle A X A X := fun {A X} => Or.inr ⟨rfl, Nat.le_refl _⟩
  rcases hor with ⟨o1, o2⟩ | ⟨o1, o2⟩
  · rcases t0 with ⟨s1, s2⟩ | ⟨s1, s2⟩
    · refine Or.inl (lex_fin new0 (s1.symm.trans o1) (s2.symm.trans o2) ?_)
      split at pk0
      · rename_i q
        rw [if_pos q, if_pos q]
        exact rf
      · rename_i q
        rw [if_neg q, if_neg q]
        exact pk0
    · refine Or.inr (lex_fin new1 (s1.symm.trans o1) (s2.symm.trans o2) ?_)
      split at pk1
      · rename_i q
        rw [if_pos q, if_pos q]
        exact rf
      · rename_i q
        rw [if_neg q, if_neg q]
        exact pk1
  · rcases t1 with ⟨s1, s2⟩ | ⟨s1, s2⟩
    · refine Or.inl (lex_fin new0 (s1.symm.trans o1) (s2.symm.trans o2) ?_)
      split at pk0
      · rename_i q
        rw [if_pos q, if_pos q]
        exact pk0
      · rename_i q
        rw [if_neg q, if_neg q]
        exact rf
    · refine Or.inr (lex_fin new1 (s1.symm.trans o1) (s2.symm.trans o2) ?_)
      split at pk1
      · rename_i q
        rw [if_pos q, if_pos q]
        exact pk1
      · rename_i q
        rw [if_neg q, if_neg q]
        exact rf
theorem dp_0 {n : Nat} {a b : Nat → Int} : dpI n a b 0 0 0 0 0 0 0 := by
  unfold dpI isMin
  rw [Nat.sub_zero, Int.zero_add, Nat.zero_mul, Nat.zero_add]
  exact ⟨Or.inl ⟨rfl, rfl⟩, Or.inr ⟨rfl, Nat.le_refl _⟩, Or.inr ⟨rfl, Nat.le_refl _⟩⟩
theorem dp_end {n : Nat} {a b : Nat → Int} {c0 c1 h0 h1 : Int} {x0 x1 : Nat} (h : dpI n a b n c0 c1 h0 h1 x0 x1) : (if c0 < c1 ∨ (c0 = c1 ∧ x0 ≤ x1) then c0 else c1) = cst n a b n 0 ∧ (if c0 < c1 ∨ (c0 = c1 ∧ x0 ≤ x1) then x0 else x1) = cdN n a b n 0 := by
  unfold dpI isMin at h
  rw [Nat.sub_self] at h
  have e1 : ∀ h, cst n a b 0 h = 0 := fun _ => rfl
  have e2 : ∀ h, cdN n a b 0 h = 0 := fun _ => rfl
  rw [e1, e1, e2, e2, Int.add_zero, Int.add_zero, Nat.pow_zero, Nat.mul_one, Nat.mul_one, Nat.add_zero, Nat.add_zero] at h
  unfold lexle at h
  split <;> omega
theorem dp_bd {n : Nat} {a b : Nat → Int} : True := trivial
