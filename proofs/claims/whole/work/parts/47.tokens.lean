/-! the text's tokens, on numbers alone -/
def skF (T : Nat → Nat) : Nat → Nat → Nat
  | 0, p => p
  | f + 1, p => if T p = 32 then skF T f (p + 1) else p
def bl (T : Nat → Nat) (n p : Nat) : Nat := skF T (n - p) p
theorem bl_end {T : Nat → Nat} {n p : Nat} (h : n ≤ p) : bl T n p = p := by
  unfold bl
  rw [show n - p = 0 by omega]
  rfl
theorem bl_yes {T : Nat → Nat} {n p : Nat} (h : p < n) (e : T p = 32) : bl T n p = bl T n (p + 1) := by
  unfold bl
  rw [show n - p = (n - (p + 1)) + 1 by omega]
  show (if T p = 32 then _ else _) = _
  rw [if_pos e]
theorem bl_no {T : Nat → Nat} {n p : Nat} (h : p < n) (e : T p ≠ 32) : bl T n p = p := by
  unfold bl
  rw [show n - p = (n - (p + 1)) + 1 by omega]
  show (if T p = 32 then _ else _) = _
  rw [if_neg e]
theorem bl_spec {T : Nat → Nat} {n : Nat} : ∀ m p, p + m = n → p ≤ bl T n p ∧ bl T n p ≤ n ∧ (bl T n p = n ∨ T (bl T n p) ≠ 32) := by
  intro m
  induction m with
  | zero =>
    intro p h
    rw [bl_end (by omega)]
    exact ⟨Nat.le_refl _, by omega, Or.inl (by omega)⟩
  | succ m ih =>
    intro p h
    by_cases e : T p = 32
    · rw [bl_yes (by omega) e]
      have := ih (p + 1) (by omega)
      exact ⟨by omega, this.2⟩
    · rw [bl_no (by omega) e]
      exact ⟨Nat.le_refl _, by omega, Or.inr e⟩
theorem bl_ok {T : Nat → Nat} {n p : Nat} (h : p ≤ n) : p ≤ bl T n p ∧ bl T n p ≤ n ∧ (bl T n p = n ∨ T (bl T n p) ≠ 32) := bl_spec (n - p) p (by omega)
theorem bl_bl {T : Nat → Nat} {n p : Nat} (h : p ≤ n) : bl T n (bl T n p) = bl T n p := by
  obtain ⟨_, h2, h3⟩ := bl_ok (T := T) h
  rcases Nat.lt_or_ge (bl T n p) n with q | q
  · exact bl_no q (h3.resolve_left (by omega))
  · exact bl_end q
abbrev dig (c : Nat) : Prop := 48 ≤ c ∧ c ≤ 57
def dgF (T : Nat → Nat) : Nat → Nat → Nat
  | 0, _ => 0
  | f + 1, q => if dig (T q) then dgF T f (q + 1) + 1 else 0
def dc (T : Nat → Nat) (n q : Nat) : Nat := dgF T (n - q) q
theorem dc_end {T : Nat → Nat} {n q : Nat} (h : n ≤ q) : dc T n q = 0 := by
  unfold dc
  rw [show n - q = 0 by omega]
  rfl
theorem dc_yes {T : Nat → Nat} {n q : Nat} (h : q < n) (e : dig (T q)) : dc T n q = dc T n (q + 1) + 1 := by
  unfold dc
  rw [show n - q = (n - (q + 1)) + 1 by omega]
  show (if dig (T q) then _ else _) = _
  rw [if_pos e]
theorem dc_no {T : Nat → Nat} {n q : Nat} (h : q < n) (e : ¬ dig (T q)) : dc T n q = 0 := by
  unfold dc
  rw [show n - q = (n - (q + 1)) + 1 by omega]
  show (if dig (T q) then _ else _) = _
  rw [if_neg e]
theorem dc_spec {T : Nat → Nat} {n : Nat} : ∀ m q, q + m = n → q + dc T n q ≤ n ∧ ∀ i, i < dc T n q → dig (T (q + i)) := by
  intro m
  induction m with
  | zero =>
    intro q h
    rw [dc_end (by omega)]
    exact ⟨by omega, fun i hi => absurd hi (by omega)⟩
  | succ m ih =>
    intro q h
    by_cases e : dig (T q)
    · rw [dc_yes (by omega) e]
      have := ih (q + 1) (by omega)
      refine ⟨by omega, fun i hi => ?_⟩
      by_cases z : i = 0
      · subst z
        exact e
      · have := this.2 (i - 1) (by omega)
        rw [show q + 1 + (i - 1) = q + i by omega] at this
        exact this
    · rw [dc_no (by omega) e]
      exact ⟨by omega, fun i hi => absurd hi (by omega)⟩
theorem dc_ok {T : Nat → Nat} {n q : Nat} (h : q ≤ n) : q + dc T n q ≤ n ∧ ∀ i, i < dc T n q → dig (T (q + i)) := dc_spec (n - q) q (by omega)
def nv (T : Nat → Nat) (q : Nat) : Nat → Nat
  | 0 => 0
  | k + 1 => 10 * nv T q k + (T (q + k) - 48)
theorem nv_s (T : Nat → Nat) (q k : Nat) : nv T q (k + 1) = 10 * nv T q k + (T (q + k) - 48) := rfl
theorem nv_lt {T : Nat → Nat} {q : Nat} : ∀ k, (∀ i, i < k → dig (T (q + i))) → nv T q k < 10 ^ k := by
  intro k
  induction k with
  | zero => intro _; exact Nat.one_pos
  | succ k ih =>
    intro h
    have := ih (fun i hi => h i (by omega))
    have h2 := h k (by omega)
    rw [nv_s, Nat.pow_succ]
    omega
theorem nv_le {T : Nat → Nat} {q k : Nat} (hk : k ≤ 3) (h : ∀ i, i < k → dig (T (q + i))) : nv T q k ≤ 999 := by
  have h1 := nv_lt k h
  have h2 : 10 ^ k ≤ 10 ^ 3 := Nat.pow_le_pow_right (by decide) hk
  omega
/-- the class's value: it stands still above 999 -/
def vc (T : Nat → Nat) (q : Nat) : Nat → Nat
  | 0 => 0
  | k + 1 => if vc T q k ≤ 999 then vc T q k * 10 + T (q + k) - 48 else vc T q k
theorem vc_s (T : Nat → Nat) (q k : Nat) : vc T q (k + 1) = if vc T q k ≤ 999 then vc T q k * 10 + T (q + k) - 48 else vc T q k := rfl
theorem vc_lt {T : Nat → Nat} {q : Nat} : ∀ k, (∀ i, i < k → dig (T (q + i))) → vc T q k ≤ 9999 := by
  intro k
  induction k with
  | zero => intro _; exact Nat.zero_le _
  | succ k ih =>
    intro h
    have := ih (fun i hi => h i (by omega))
    have h2 := h k (by omega)
    rw [vc_s]
    split <;> omega
theorem vc_nv {T : Nat → Nat} {q : Nat} : ∀ k, k ≤ 3 → (∀ i, i < k → dig (T (q + i))) → vc T q k = nv T q k := by
  intro k
  induction k with
  | zero => intro _ _; rfl
  | succ k ih =>
    intro hk h
    have e := ih (by omega) (fun i hi => h i (by omega))
    have h1 := nv_le (k := k) (by omega) (fun i hi => h i (by omega))
    have h2 := h k (by omega)
    rw [vc_s, nv_s, e, if_pos h1]
    omega
theorem vc_big {T : Nat → Nat} {q : Nat} (h0 : T q ≠ 48) : ∀ k, (∀ i, i < k + 4 → dig (T (q + i))) → 999 < vc T q (k + 4) := by
  intro k
  induction k with
  | zero =>
    intro h
    have d0 := h 0 (by omega)
    have d3 := h 3 (by omega)
    have e3 := vc_nv 3 (by omega) (fun i hi => h i (by omega))
    have l3 := nv_le (k := 3) (by omega) (fun i hi => h i (by omega))
    have n1 : nv T q 1 = T (q + 0) - 48 := by rw [nv_s]; show 10 * 0 + _ = _; omega
    have n2 : nv T q 2 = 10 * nv T q 1 + (T (q + 1) - 48) := rfl
    have n3 : nv T q 3 = 10 * nv T q 2 + (T (q + 2) - 48) := rfl
    have v4 : vc T q 4 = if vc T q 3 ≤ 999 then vc T q 3 * 10 + T (q + 3) - 48 else vc T q 3 := rfl
    rw [if_pos (by omega)] at v4
    rw [Nat.add_zero] at d0 n1
    show 999 < vc T q 4
    omega
  | succ k ih =>
    intro h
    have := ih (fun i hi => h i (by omega))
    have e : vc T q (k + 1 + 4) = vc T q (k + 4) := by
      rw [show k + 1 + 4 = (k + 4) + 1 by omega, vc_s, if_neg (by omega)]
    rw [e]
    exact this
abbrev wrg (T : Nat → Nat) (n q : Nat) : Prop := 3 < dc T n q ∨ (T q = 48 ∧ 1 < dc T n q)
theorem vc_wrg {T : Nat → Nat} {n q : Nat} (h : q ≤ n) : (999 < vc T q (dc T n q) ∨ (T q = 48 ∧ 1 < dc T n q)) ↔ wrg T n q := by
  obtain ⟨_, hd⟩ := dc_ok (T := T) h
  by_cases z : T q = 48 ∧ 1 < dc T n q
  · exact ⟨fun _ => Or.inr z, fun _ => Or.inr z⟩
  · rcases Nat.lt_or_ge 3 (dc T n q) with k | k
    · refine ⟨fun _ => Or.inl k, fun _ => Or.inl ?_⟩
      have := vc_big (T := T) (q := q) (fun e => z ⟨e, by omega⟩) (dc T n q - 4) (fun i hi => hd i (by omega))
      rw [show dc T n q - 4 + 4 = dc T n q by omega] at this
      exact this
    · have e := vc_nv (dc T n q) k hd
      have l := nv_le k hd
      constructor
      · rintro (a | a)
        · omega
        · exact absurd a z
      · rintro (a | a)
        · omega
        · exact absurd a z
/-- the model's value: 1000 from the fourth figure on -/
def wc (T : Nat → Nat) (q : Nat) : Nat → Nat
  | 0 => 0
  | k + 1 => if k < 3 then 10 * wc T q k + T (q + k) - 48 else 1000
theorem wc_s (T : Nat → Nat) (q k : Nat) : wc T q (k + 1) = if k < 3 then 10 * wc T q k + T (q + k) - 48 else 1000 := rfl
theorem wc_nv {T : Nat → Nat} {q : Nat} : ∀ k, k ≤ 3 → (∀ i, i < k → dig (T (q + i))) → wc T q k = nv T q k := by
  intro k
  induction k with
  | zero => intro _ _; rfl
  | succ k ih =>
    intro hk h
    have e := ih (by omega) (fun i hi => h i (by omega))
    have h2 := h k (by omega)
    rw [wc_s, nv_s, e, if_pos (by omega)]
    omega
theorem wc_le {T : Nat → Nat} {q : Nat} {k : Nat} (h : ∀ i, i < k → dig (T (q + i))) : wc T q k ≤ 1000 := by
  rcases Nat.lt_or_ge 3 k with z | z
  · obtain ⟨j, rfl⟩ : ∃ j, k = j + 1 := ⟨k - 1, by omega⟩
    rw [wc_s, if_neg (by omega)]
    omega
  · rw [wc_nv k z h]
    have := nv_le z h
    omega
theorem wc_wrg {T : Nat → Nat} {n q : Nat} (h : q ≤ n) : (wc T q (dc T n q) = 1000 ∨ (T q = 48 ∧ 1 < dc T n q)) ↔ wrg T n q := by
  obtain ⟨_, hd⟩ := dc_ok (T := T) h
  rcases Nat.lt_or_ge 3 (dc T n q) with k | k
  · refine ⟨fun _ => Or.inl k, fun _ => Or.inl ?_⟩
    obtain ⟨j, hj⟩ : ∃ j, dc T n q = j + 1 := ⟨dc T n q - 1, by omega⟩
    rw [hj, wc_s, if_neg (by omega)]
  · have e := wc_nv (dc T n q) k hd
    have l := nv_le k hd
    constructor
    · rintro (a | a)
      · omega
      · exact Or.inr a
    · rintro (a | a)
      · omega
      · exact Or.inr a
def nuC (T : Nat → Nat) (n q : Nat) : Nat := if wrg T n q then 2000 else 1000 + nv T q (dc T n q)
def tkC (T : Nat → Nat) (n p : Nat) : Nat := if n ≤ bl T n p then 3000 else if dig (T (bl T n p)) then nuC T n (bl T n p) else T (bl T n p)
def tkN (T : Nat → Nat) (n p : Nat) : Nat := if n ≤ bl T n p then bl T n p else if dig (T (bl T n p)) then bl T n p + dc T n (bl T n p) else bl T n p + 1
theorem nuC_bd {T : Nat → Nat} {n q : Nat} (h : q ≤ n) : 1000 ≤ nuC T n q ∧ nuC T n q ≤ 2000 ∧ (wrg T n q ↔ nuC T n q = 2000) := by
  unfold nuC
  by_cases z : wrg T n q
  · rw [if_pos z]
    exact ⟨by omega, by omega, fun _ => rfl, fun _ => z⟩
  · rw [if_neg z]
    obtain ⟨_, hd⟩ := dc_ok (T := T) h
    have : dc T n q ≤ 3 := by
      have z : ¬ (3 < dc T n q ∨ (T q = 48 ∧ 1 < dc T n q)) := z
      omega
    have := nv_le this hd
    exact ⟨by omega, by omega, fun a => absurd a z, fun a => by omega⟩
theorem tkN_ok {T : Nat → Nat} {n p : Nat} (h : p ≤ n) : p ≤ tkN T n p ∧ tkN T n p ≤ n ∧ (bl T n p < n → p < tkN T n p) := by
  obtain ⟨h1, h2, h3⟩ := bl_ok (T := T) h
  unfold tkN
  by_cases z : n ≤ bl T n p
  · rw [if_pos z]
    exact ⟨h1, h2, fun q => by omega⟩
  · rw [if_neg z]
    by_cases y : dig (T (bl T n p))
    · rw [if_pos y]
      have a := dc_ok (T := T) h2
      have b := dc_yes (n := n) (by omega) y
      exact ⟨by omega, a.1, fun _ => by omega⟩
    · rw [if_neg y]
      exact ⟨by omega, by omega, fun _ => by omega⟩
theorem tkC_end {T : Nat → Nat} {n p : Nat} (h : p ≤ n) (hT : ∀ i, i < n → T i ≤ 255) : tkC T n p = 3000 ↔ bl T n p = n := by
  obtain ⟨h1, h2, h3⟩ := bl_ok (T := T) h
  unfold tkC
  by_cases z : n ≤ bl T n p
  · rw [if_pos z]
    exact ⟨fun _ => by omega, fun _ => rfl⟩
  · rw [if_neg z]
    by_cases y : dig (T (bl T n p))
    · rw [if_pos y]
      have := nuC_bd (T := T) h2
      exact ⟨fun _ => by omega, fun _ => by omega⟩
    · rw [if_neg y]
      have := hT (bl T n p) (by omega)
      exact ⟨fun _ => by omega, fun _ => by omega⟩
theorem tk_bl {T : Nat → Nat} {n p : Nat} (h : p ≤ n) : tkC T n (bl T n p) = tkC T n p ∧ tkN T n (bl T n p) = tkN T n p := by
  unfold tkC tkN
  rw [bl_bl h]
  exact ⟨rfl, rfl⟩
theorem tk_fin {T : Nat → Nat} {n p : Nat} (h : n ≤ bl T n p) : tkC T n p = 3000 ∧ tkN T n p = bl T n p := by
  unfold tkC tkN
  exact ⟨if_pos h, if_pos h⟩
theorem tk_num {T : Nat → Nat} {n p : Nat} (h : bl T n p < n) (hd : dig (T (bl T n p))) : tkC T n p = nuC T n (bl T n p) ∧ tkN T n p = bl T n p + dc T n (bl T n p) := by
  have h' : ¬ n ≤ bl T n p := by omega
  unfold tkC tkN
  exact ⟨(if_neg h').trans (if_pos hd), (if_neg h').trans (if_pos hd)⟩
theorem tk_let {T : Nat → Nat} {n p : Nat} (h : bl T n p < n) (hd : ¬ dig (T (bl T n p))) : tkC T n p = T (bl T n p) ∧ tkN T n p = bl T n p + 1 := by
  have h' : ¬ n ≤ bl T n p := by omega
  unfold tkC tkN
  exact ⟨(if_neg h').trans (if_neg hd), (if_neg h').trans (if_neg hd)⟩
