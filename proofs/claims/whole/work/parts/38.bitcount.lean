/-! Integer.bitCount in general -/
theorem bitsN_app (p : Nat → Bool) (n : Nat) : ∀ m, bitsN p (n + m) = bitsN p n + 2 ^ n * bitsN (fun k => p (n + k)) m := by
  intro m
  induction m with
  | zero => show bitsN p n = bitsN p n + 2 ^ n * 0; omega
  | succ m ih =>
    show bitsN p (n + m) + (if p (n + m) = true then 2 ^ (n + m) else 0) = bitsN p n + 2 ^ n * (bitsN (fun k => p (n + k)) m + (if p (n + m) = true then 2 ^ m else 0))
    rw [ih, Nat.mul_add, Nat.pow_add]
    split
    · omega
    · rw [Nat.mul_zero]
      omega
theorem cntN_app (p : Nat → Bool) (n : Nat) : ∀ m, cntN p 0 (n + m) = cntN p 0 n + cntN (fun k => p (n + k)) 0 m := by
  intro m
  induction m with
  | zero => rfl
  | succ m ih =>
    show cntN p 0 (n + m) + (if p (0 + (n + m)) = true then 1 else 0) = cntN p 0 n + (cntN (fun k => p (n + k)) 0 m + (if p (n + (0 + m)) = true then 1 else 0))
    rw [ih, Nat.zero_add, Nat.zero_add]
    omega
theorem popN_bits (q : Nat → Bool) : popN (bitsN q 8) = cntN q 0 8 := by
  refine cntN_cong (fun i hi => ?_)
  rw [Nat.zero_add, bitsN_dm q hi]
  cases q i <;> rfl
theorem land_split {x y p q n : Nat} (hx : x < 2 ^ n) (hp : p < 2 ^ n) : (x + 2 ^ n * y) &&& (p + 2 ^ n * q) = (x &&& p) + 2 ^ n * (y &&& q) := by
  refine Nat.eq_of_testBit_eq (fun i => ?_)
  rw [Nat.testBit_and, Nat.add_comm x, Nat.add_comm p, Nat.add_comm (x &&& p), Nat.testBit_two_pow_mul_add _ hx, Nat.testBit_two_pow_mul_add _ hp, Nat.testBit_two_pow_mul_add _ (Nat.lt_of_le_of_lt Nat.and_le_left hx)]
  split
  · rw [Nat.testBit_and]
  · rw [Nat.testBit_and]
theorem land4 {x0 x1 x2 x3 p0 p1 p2 p3 : Nat} (h0 : x0 < 256) (h1 : x1 < 256) (h2 : x2 < 256) (g0 : p0 < 256) (g1 : p1 < 256) (g2 : p2 < 256) : (x0 + 256 * x1 + 65536 * x2 + 16777216 * x3) &&& (p0 + 256 * p1 + 65536 * p2 + 16777216 * p3) = (x0 &&& p0) + 256 * (x1 &&& p1) + 65536 * (x2 &&& p2) + 16777216 * (x3 &&& p3) := by
  have e1 : ∀ a b c d : Nat, a + 256 * b + 65536 * c + 16777216 * d = a + 2 ^ 8 * (b + 2 ^ 8 * (c + 2 ^ 8 * d)) := by intro a b c d; omega
  rw [e1, e1, e1, land_split (n := 8) h0 g0, land_split (n := 8) h1 g1, land_split (n := 8) h2 g2]
def by1 (a : Nat) : Nat := a - ((a / 2) &&& 85)
def by2 (c : Nat) : Nat := (c &&& 51) + ((c / 4) &&& 51)
def by3 (d : Nat) : Nat := (d + d / 16) &&& 15
theorem by_ok : ∀ a, a < 256 → (by1 a < 256 ∧ ((a / 2) &&& 85) ≤ a) ∧ by2 (by1 a) ≤ 68 ∧ by2 (by1 a) % 16 ≤ 4 ∧ by3 (by2 (by1 a)) = popN a := by decide +kernel
theorem by_m1 : ∀ x, x < 128 → ∀ t, t < 2 → (x + 128 * t) &&& 85 = x &&& 85 := by decide +kernel
theorem by_m2 : ∀ x, x < 64 → ∀ t, t < 4 → (x + 64 * t) &&& 51 = x &&& 51 := by decide +kernel
theorem by_m3 : ∀ x, x < 73 → ∀ t, t < 5 → (x + 16 * t) &&& 15 = x &&& 15 := by decide +kernel
theorem popN_le (a : Nat) : popN a ≤ 8 := cntN_le _ _ _
theorem ush_nI {v : Nat} (hv : v < 2 ^ 32) (k : Nat) (hk : k < 32) : ush (nI v) k = nI (v / 2 ^ k) := by
  have : ∀ k, k < 32 → (((nI k).toUInt32 &&& Int32.toUInt32 31).toBitVec % 32).toNat = k := by decide +kernel
  exact pk_ushrN hv (nI k) k (this k hk)
theorem bc32 {a0 a1 a2 a3 : Nat} (h0 : a0 < 256) (h1 : a1 < 256) (h2 : a2 < 256) (h3 : a3 < 256) : bcF (nI (a0 + 256 * a1 + 65536 * a2 + 16777216 * a3)) = nI (popN a0 + popN a1 + popN a2 + popN a3) := by
  obtain ⟨⟨p0, l0⟩, q0, r0, s0⟩ := by_ok a0 h0
  obtain ⟨⟨p1, l1⟩, q1, r1, s1⟩ := by_ok a1 h1
  obtain ⟨⟨p2, l2⟩, q2, r2, s2⟩ := by_ok a2 h2
  obtain ⟨⟨p3, l3⟩, q3, r3, s3⟩ := by_ok a3 h3
  -- the first step
  have e1 : bc1 (nI (a0 + 256 * a1 + 65536 * a2 + 16777216 * a3)) = nI (by1 a0 + 256 * by1 a1 + 65536 * by1 a2 + 16777216 * by1 a3) := by
    unfold bc1
    rw [ush_nI (by omega) 1 (by decide), show (1431655765 : Int32) = nI (85 + 256 * 85 + 65536 * 85 + 16777216 * 85) by decide, nI_and]
    have hd : (a0 + 256 * a1 + 65536 * a2 + 16777216 * a3) / 2 ^ 1 = (a0 / 2 + 128 * (a1 % 2)) + 256 * (a1 / 2 + 128 * (a2 % 2)) + 65536 * (a2 / 2 + 128 * (a3 % 2)) + 16777216 * (a3 / 2) := by omega
    rw [hd, land4 (by omega) (by omega) (by omega) (by decide) (by decide) (by decide), by_m1 _ (by omega) _ (by omega), by_m1 _ (by omega) _ (by omega), by_m1 _ (by omega) _ (by omega), pk_sub (by omega)]
    unfold by1
    congr 1
    omega
  generalize by1 a0 = c0 at *
  generalize by1 a1 = c1 at *
  generalize by1 a2 = c2 at *
  generalize by1 a3 = c3 at *
  have e2 : bc2 (nI (c0 + 256 * c1 + 65536 * c2 + 16777216 * c3)) = nI (by2 c0 + 256 * by2 c1 + 65536 * by2 c2 + 16777216 * by2 c3) := by
    unfold bc2
    rw [ush_nI (by omega) 2 (by decide), show (858993459 : Int32) = nI (51 + 256 * 51 + 65536 * 51 + 16777216 * 51) by decide, nI_and, nI_and]
    have hd : (c0 + 256 * c1 + 65536 * c2 + 16777216 * c3) / 2 ^ 2 = (c0 / 4 + 64 * (c1 % 4)) + 256 * (c1 / 4 + 64 * (c2 % 4)) + 65536 * (c2 / 4 + 64 * (c3 % 4)) + 16777216 * (c3 / 4) := by omega
    rw [hd, land4 (by omega) (by omega) (by omega) (by decide) (by decide) (by decide), land4 (by omega) (by omega) (by omega) (by decide) (by decide) (by decide), by_m2 _ (by omega) _ (by omega), by_m2 _ (by omega) _ (by omega), by_m2 _ (by omega) _ (by omega), nI_add]
    unfold by2
    congr 1
    omega
  generalize by2 c0 = d0 at *
  generalize by2 c1 = d1 at *
  generalize by2 c2 = d2 at *
  generalize by2 c3 = d3 at *
  have e3 : bc3 (nI (d0 + 256 * d1 + 65536 * d2 + 16777216 * d3)) = nI (by3 d0 + 256 * by3 d1 + 65536 * by3 d2 + 16777216 * by3 d3) := by
    unfold bc3
    rw [ush_nI (by omega) 4 (by decide), show (252645135 : Int32) = nI (15 + 256 * 15 + 65536 * 15 + 16777216 * 15) by decide, nI_add, nI_and]
    have hd : (d0 + 256 * d1 + 65536 * d2 + 16777216 * d3) + (d0 + 256 * d1 + 65536 * d2 + 16777216 * d3) / 2 ^ 4 = (d0 + d0 / 16 + 16 * (d1 % 16)) + 256 * (d1 + d1 / 16 + 16 * (d2 % 16)) + 65536 * (d2 + d2 / 16 + 16 * (d3 % 16)) + 16777216 * (d3 + d3 / 16) := by omega
    rw [hd, land4 (by omega) (by omega) (by omega) (by decide) (by decide) (by decide), by_m3 _ (by omega) _ (by omega), by_m3 _ (by omega) _ (by omega), by_m3 _ (by omega) _ (by omega)]
    rfl
  have n0 := popN_le a0
  have n1 := popN_le a1
  have n2 := popN_le a2
  have n3 := popN_le a3
  unfold bcF
  rw [e1, e2, e3, s0, s1, s2, s3]
  generalize popN a0 = f0 at *
  generalize popN a1 = f1 at *
  generalize popN a2 = f2 at *
  generalize popN a3 = f3 at *
  unfold bc5 bc4
  rw [ush_nI (by omega) 8 (by decide), nI_add, ush_nI (by omega) 16 (by decide), nI_add, nI_and]
  have hm : ∀ v, v &&& 63 = v % 64 := fun v => Nat.and_two_pow_sub_one_eq_mod v 6
  rw [hm]
  clear e1 e2 e3 s0 s1 s2 s3 q0 q1 q2 q3 r0 r1 r2 r3 p0 p1 p2 p3 h0 h1 h2 h3
  have d1 : (f0 + 256 * f1 + 65536 * f2 + 16777216 * f3) / 2 ^ 8 = f1 + 256 * f2 + 65536 * f3 := by omega
  rw [d1]
  have d2 : (f0 + 256 * f1 + 65536 * f2 + 16777216 * f3 + (f1 + 256 * f2 + 65536 * f3)) / 2 ^ 16 = (f2 + f3) + 256 * f3 := by omega
  rw [d2]
  have d3 : (f0 + 256 * f1 + 65536 * f2 + 16777216 * f3 + (f1 + 256 * f2 + 65536 * f3)) + ((f2 + f3) + 256 * f3) = (f0 + f1 + f2 + f3) + 64 * (4 * (f1 + f2 + f3) + 1024 * (f2 + f3) + 262144 * f3) := by omega
  rw [d3, Nat.add_mul_mod_self_left, Nat.mod_eq_of_lt (by omega)]
theorem bcG (p : Nat → Bool) : bcF (nI (bitsN p 32)) = nI (cntN p 0 32) := by
  have e1 : bitsN p 32 = bitsN p 8 + 256 * bitsN (fun k => p (8 + k)) 8 + 65536 * bitsN (fun k => p (16 + k)) 8 + 16777216 * bitsN (fun k => p (24 + k)) 8 := by
    have a1 := bitsN_app p 24 8
    have a2 := bitsN_app p 16 8
    have a3 := bitsN_app p 8 8
    rw [show 24 + 8 = 32 from rfl] at a1
    rw [show 16 + 8 = 24 from rfl] at a2
    rw [show 8 + 8 = 16 from rfl] at a3
    rw [a1, a2, a3]
  have e2 : cntN p 0 32 = cntN p 0 8 + cntN (fun k => p (8 + k)) 0 8 + cntN (fun k => p (16 + k)) 0 8 + cntN (fun k => p (24 + k)) 0 8 := by
    have a1 := cntN_app p 24 8
    have a2 := cntN_app p 16 8
    have a3 := cntN_app p 8 8
    rw [show 24 + 8 = 32 from rfl] at a1
    rw [show 16 + 8 = 24 from rfl] at a2
    rw [show 8 + 8 = 16 from rfl] at a3
    rw [a1, a2, a3]
  rw [e1, bc32 (bitsN_lt _ 8) (bitsN_lt _ 8) (bitsN_lt _ 8) (bitsN_lt _ 8), popN_bits, popN_bits, popN_bits, popN_bits, ← e2]
