/-! passes: the lowest in which a dot may be struck -/
def freeP (D : Nat → Bool) (r : Nat) (P : Nat → Nat) (c p : Nat) : Prop := ∀ i, i < c → D i = true → P i = p → i + r < c
def isPas (n : Nat) (D : Nat → Bool) (r : Nat) (P : Nat → Nat) : Prop := ∀ c, c < n → D c = true → freeP D r P c (P c) ∧ ∀ q, q < P c → ¬ freeP D r P c q
theorem pas_ex (D : Nat → Bool) (r n : Nat) : ∃ P : Nat → Nat, isPas n D r P := by
  induction n with
  | zero => exact ⟨fun _ => 0, fun c hc => absurd hc (by omega)⟩
  | succ n ih =>
    obtain ⟨P, hP⟩ := ih
    have hb : ∀ m : Nat, ∃ b : Nat, ∀ i, i < m → P i < b := by
      intro m
      induction m with
      | zero => exact ⟨0, fun i hi => absurd hi (by omega)⟩
      | succ m ih =>
        obtain ⟨b, hb⟩ := ih
        refine ⟨b + P m + 1, fun i hi => ?_⟩
        rcases Nat.lt_or_ge i m with q | q
        · have := hb i q
          omega
        · have : i = m := by omega
          subst this
          omega
    obtain ⟨b, hb⟩ := hb n
    obtain ⟨p, h1, h2⟩ := pk_least (fun p => freeP D r P n p) ⟨b, fun i hi hd e => by have := hb i hi; omega⟩
    have key : ∀ c q, c ≤ n → (freeP D r (fun j => if j = n then p else P j) c q ↔ freeP D r P c q) := by
      intro c q hc
      constructor
      · intro h i hi hd e
        exact h i hi hd (by show (if i = n then p else P i) = q; rw [if_neg (by omega)]; exact e)
      · intro h i hi hd e
        have e2 : (if i = n then p else P i) = q := e
        rw [if_neg (by omega)] at e2
        exact h i hi hd e2
    refine ⟨fun j => if j = n then p else P j, fun c hc hd => ?_⟩
    rcases Nat.lt_or_ge c n with q | q
    · have e : (if c = n then p else P c) = P c := if_neg (by omega)
      obtain ⟨g1, g2⟩ := hP c q hd
      refine ⟨?_, fun y hy => ?_⟩
      · show freeP D r _ c (if c = n then p else P c)
        rw [e]
        exact (key c _ (by omega)).mpr g1
      · have hy2 : y < (if c = n then p else P c) := hy
        rw [e] at hy2
        exact fun z => g2 y hy2 ((key c y (by omega)).mp z)
    · have e0 : c = n := by omega
      subst e0
      refine ⟨?_, fun y hy => ?_⟩
      · show freeP D r _ c (if c = c then p else P c)
        rw [if_pos rfl]
        exact (key c _ (Nat.le_refl _)).mpr h1
      · have hy2 : y < (if c = c then p else P c) := hy
        rw [if_pos rfl] at hy2
        exact fun z => h2 y hy2 ((key c y (Nat.le_refl _)).mp z)
/-- the pass of each dot of a needle -/
noncomputable def pas (D : Nat → Bool) (r : Nat) : Nat → Nat := Classical.choose (pas_ex D r 24)
theorem pas_ok (D : Nat → Bool) (r : Nat) : isPas 24 D r (pas D r) := Classical.choose_spec (pas_ex D r 24)
theorem pas_eq {D : Nat → Bool} {r c p : Nat} (hc : c < 24) (hd : D c = true) (h1 : freeP D r (pas D r) c p) (h2 : ∀ q, q < p → ¬ freeP D r (pas D r) c q) : p = pas D r c := by
  obtain ⟨g1, g2⟩ := pas_ok D r c hc hd
  rcases Nat.lt_trichotomy p (pas D r c) with h | h | h
  · exact absurd h1 (g2 p h)
  · exact h
  · exact absurd g1 (h2 _ h)
theorem inj_le : ∀ (r p : Nat) (f : Nat → Nat), (∀ q, q < p → f q < r) → (∀ q q', q < p → q' < p → f q = f q' → q = q') → p ≤ r := by
  intro r
  induction r with
  | zero =>
    intro p f h1 h2
    rcases Nat.eq_zero_or_pos p with q | q
    · omega
    · exact absurd (h1 0 q) (by omega)
  | succ r ih =>
    intro p f h1 h2
    by_cases h : ∃ q0, q0 < p ∧ f q0 = r
    · obtain ⟨q0, hq0, e0⟩ := h
      have := ih (p - 1) (fun q => f (if q < q0 then q else q + 1)) (fun q hq => ?_) (fun q q' hq hq' e => ?_)
      · omega
      · have a1 : (if q < q0 then q else q + 1) < p := by split <;> omega
        have a2 := h1 _ a1
        have a3 : f (if q < q0 then q else q + 1) ≠ r := by
          intro z
          have := h2 _ q0 a1 hq0 (z.trans e0.symm)
          split at this <;> omega
        show f (if q < q0 then q else q + 1) < r
        omega
      · have a1 : (if q < q0 then q else q + 1) < p := by split <;> omega
        have a2 : (if q' < q0 then q' else q' + 1) < p := by split <;> omega
        have := h2 _ _ a1 a2 e
        split at this <;> split at this <;> omega
    · exact Nat.le_succ_of_le (ih p f (fun q hq => by
        have := h1 q hq
        have : f q ≠ r := fun z => h ⟨q, hq, z⟩
        omega) h2)
theorem pas_le {D : Nat → Bool} {r c : Nat} (hc : c < 24) (hd : D c = true) : pas D r c ≤ r := by
  obtain ⟨-, g2⟩ := pas_ok D r c hc hd
  have hex : ∀ q, ∃ i, q < pas D r c → i < c ∧ D i = true ∧ pas D r i = q ∧ c ≤ i + r := by
    intro q
    by_cases hq : q < pas D r c
    · have h := g2 q hq
      unfold freeP at h
      refine Classical.byContradiction (fun z => h (fun i hi hd e => Classical.byContradiction (fun w => z ⟨i, fun _ => ⟨hi, hd, e, by omega⟩⟩)))
    · exact ⟨0, fun z => absurd z hq⟩
  have hf := fun q => Classical.choose_spec (hex q)
  refine inj_le r (pas D r c) (fun q => c - 1 - Classical.choose (hex q)) (fun q hq => ?_) (fun q q' hq hq' e => ?_)
  · obtain ⟨a1, a2, a3, a4⟩ := hf q hq
    show c - 1 - Classical.choose (hex q) < r
    omega
  · obtain ⟨a1, a2, a3, a4⟩ := hf q hq
    obtain ⟨b1, b2, b3, b4⟩ := hf q' hq'
    have e2 : c - 1 - Classical.choose (hex q) = c - 1 - Classical.choose (hex q') := e
    have e3 : Classical.choose (hex q) = Classical.choose (hex q') := by omega
    rw [← a3, ← b3, e3]
/-- below a dot's pass there are dots in each pass -/
theorem pas_below {D : Nat → Bool} {r c q : Nat} (hc : c < 24) (hd : D c = true) (hq : q < pas D r c) : ∃ i, i < c ∧ D i = true ∧ pas D r i = q := by
  have h := (pas_ok D r c hc hd).2 q hq
  unfold freeP at h
  exact Classical.byContradiction (fun z => h (fun i hi hd e => absurd ⟨i, hi, hd, e⟩ z))
def usedN (D : Nat → Bool) (P : Nat → Nat) : Nat → Nat
  | 0 => 0
  | c + 1 => if D c = true then max (usedN D P c) (P c + 1) else usedN D P c
theorem usedN_lt {D : Nat → Bool} {P : Nat → Nat} : ∀ (n i : Nat), i < n → D i = true → P i < usedN D P n := by
  intro n
  induction n with
  | zero => intro i hi; omega
  | succ n ih =>
    intro i hi hd
    unfold usedN
    by_cases q : i = n
    · subst q
      rw [if_pos hd]
      omega
    · have := ih i (by omega) hd
      split <;> omega
theorem usedN_ex {D : Nat → Bool} {P : Nat → Nat} : ∀ (n p : Nat), p + 1 = usedN D P n → ∃ i, i < n ∧ D i = true ∧ P i = p := by
  intro n
  induction n with
  | zero => intro p h; unfold usedN at h; omega
  | succ n ih =>
    intro p h
    unfold usedN at h
    by_cases hd : D n = true
    · rw [if_pos hd] at h
      rcases Nat.le_total (usedN D P n) (P n + 1) with q | q
      · exact ⟨n, by omega, hd, by omega⟩
      · obtain ⟨i, h1, h2⟩ := ih p (by omega)
        exact ⟨i, by omega, h2⟩
    · rw [if_neg hd] at h
      obtain ⟨i, h1, h2⟩ := ih p h
      exact ⟨i, by omega, h2⟩
theorem usedN_le {D : Nat → Bool} {r : Nat} : ∀ n, n ≤ 24 → usedN D (pas D r) n ≤ r + 1 := by
  intro n hn
  rcases Nat.eq_zero_or_pos (usedN D (pas D r) n) with q | q
  · omega
  · obtain ⟨i, h1, h2, h3⟩ := usedN_ex (D := D) (P := pas D r) n (usedN D (pas D r) n - 1) (by omega)
    have := pas_le (r := r) (by omega : i < 24) h2
    omega
/-- a pass has a dot of the needle just if it is below the number of its passes -/
theorem usedN_iff {D : Nat → Bool} {r p : Nat} : p < usedN D (pas D r) 24 ↔ ∃ i, i < 24 ∧ D i = true ∧ pas D r i = p := by
  constructor
  · intro h
    obtain ⟨i, h1, h2, h3⟩ := usedN_ex (D := D) (P := pas D r) 24 (usedN D (pas D r) 24 - 1) (by omega)
    rcases Nat.lt_or_ge p (pas D r i) with q | q
    · obtain ⟨j, g1, g2, g3⟩ := pas_below h1 h2 q
      exact ⟨j, by omega, g2, g3⟩
    · exact ⟨i, h1, h2, by omega⟩
  · rintro ⟨i, h1, h2, rfl⟩
    exact usedN_lt 24 i h1 h2
