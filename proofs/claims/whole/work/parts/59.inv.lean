/-! deeds on rows; what holds between two calls -/
def vdR (k p w : Nat) (r : Nat → Nat) : Prop := (k = 0 ∧ p < 18 ∧ w ≤ 255) ∨ (k = 1 ∧ p < 4 ∧ p < r 21 ∧ 0 < r (22 + p)) ∨ (k = 2 ∧ 0 < r 21 ∧ p < 4) ∨ (k = 3 ∧ p < 4 ∧ p < r 21 ∧ r (22 + p) < 8 ∧ w ≤ 6) ∨ (k = 4 ∧ p < 3 ∧ rgOk p w)
def apR (r : Nat → Nat) (p w : Nat) : Nat → Nat := up (up r (26 + 8 * p + r (22 + p)) w) (22 + p) (r (22 + p) + 1)
def tbR (k p w : Nat) (r : Nat → Nat) : Nat → Nat := match k with
  | 0 => up r (3 + p) w
  | 1 => skR r p
  | 2 => drR r
  | 3 => apR r p w
  | _ => up r p w
theorem vdR.p18 {k p w : Nat} {r : Nat → Nat} (h : vdR k p w r) : p < 18 := by
  rcases h with h | h | h | h | h <;> omega
theorem vd_cong {k p w : Nat} {a b : Nat → Nat} (e : ∀ i, i < 58 → a i = b i) (h : vdR k p w a) : vdR k p w b := by
  have hp := h.p18
  unfold vdR at h ⊢
  rw [e 21 (by omega), e (22 + p) (by omega)] at h
  exact h
theorem up_cong {a b : Nat → Nat} {j v i : Nat} (e : a i = b i) : up a j v i = up b j v i := by
  unfold up
  rw [e]
theorem tb_cong {k p w : Nat} {a b : Nat → Nat} (hp : p < 18) (e : ∀ i, i < 58 → a i = b i) : ∀ i, i < 58 → tbR k p w a i = tbR k p w b i := by
  intro i hi
  have e1 := e (22 + p) (by omega)
  have e2 := e 21 (by omega)
  match k with
  | 0 => exact up_cong (e i hi)
  | 1 =>
    show skR a p i = skR b p i
    unfold skR
    rw [e1]
    exact up_cong (up_cong (e i hi))
  | 2 =>
    show drR a i = drR b i
    unfold drR
    rw [e2, e i hi]
  | 3 =>
    show apR a p w i = apR b p w i
    unfold apR
    rw [e1]
    exact up_cong (up_cong (e i hi))
  | k + 4 => exact up_cong (e i hi)
theorem vd_S {k p w : Nat} {s : shT} {r : Nat → Nat} (hR : Rel s r) (h : vdR k p w r) : vdS k p w s := by
  obtain ⟨h1, h2, h3, h4, h5⟩ := hR
  have e : p < 4 → p < r 21 → r (22 + p) = s.2.2.1 p := fun a b => by rw [h4 p a, if_pos (by omega)]
  rcases h with ⟨a, b, c⟩ | ⟨a, b, c, g⟩ | ⟨a, b, c⟩ | ⟨a, b, c, g, i⟩ | ⟨a, b, c⟩
  · exact Or.inl ⟨a, b, c⟩
  · rw [e b c] at g
    exact Or.inr (Or.inl ⟨a, by omega, g⟩)
  · exact Or.inr (Or.inr (Or.inl ⟨a, by omega⟩))
  · rw [e b c] at g
    exact Or.inr (Or.inr (Or.inr (Or.inl ⟨a, by omega, g, i⟩)))
  · exact Or.inr (Or.inr (Or.inr (Or.inr ⟨a, c⟩)))
theorem tb_Rel {k p w : Nat} {s : shT} {r : Nat → Nat} (hR : Rel s r) (ho : shOk s) (h : vdR k p w r) : Rel (tbS k p w s) (tbR k p w r) ∧ shOk (tbS k p w s) := by
  obtain ⟨h1, h2, h3, h4, h5⟩ := id hR
  have e : p < 4 → p < r 21 → r (22 + p) = s.2.2.1 p := fun a b => by rw [h4 p a, if_pos (by omega)]
  rcases h with ⟨a, b, c⟩ | ⟨a, b, c, g⟩ | ⟨a, b, c⟩ | ⟨a, b, c, g, i⟩ | ⟨a, b, c⟩ <;> subst a
  · exact ⟨Rel_draw hR b, shOk_draw ho c⟩
  · rw [e b c] at g
    exact ⟨Rel_ch hR ho (by omega) g, shOk_ch ho (by omega)⟩
  · exact ⟨Rel_drop hR ho (by omega), shOk_drop ho⟩
  · rw [e b c] at g
    refine ⟨?_, shOk_app ho (by omega) g i⟩
    show Rel (shApp s p w) (apR r p w)
    unfold apR
    rw [e b c]
    exact Rel_app hR ho (by omega) g
  · exact ⟨Rel_set hR b, shOk_set ho c⟩
def snp (U : Nat → Nat) (ua j : Nat) : Nat → Nat := fun k => U (58 * ((ua + 9 - j) % 10) + k)
def stt (r U : Nat → Nat) (ua j : Nat) : Nat → Nat := if j = 0 then r else snp U ua (j - 1)
def chn (r : Nat → Nat) (kn : Nat) (K P W U : Nat → Nat) (ua : Nat) : Prop := ∀ j, j < kn → vdR (K (kn - 1 - j)) (P (kn - 1 - j)) (W (kn - 1 - j)) (stt r U ua j) ∧ ∀ i, i < 58 → snp U ua j i = tbR (K (kn - 1 - j)) (P (kn - 1 - j)) (W (kn - 1 - j)) (stt r U ua j) i
theorem chn_push {r r' K P W K' P' W' U U' : Nat → Nat} {kn kn' k p w ua : Nat} (h : chn r kn K P W U ua) (hua : ua < 10) (hD : pushD K P W kn k p w K' P' W' kn') (hU : remP U r ua U') (hv : vdR k p w r') (ht : ∀ i, i < 58 → r i = tbR k p w r' i) (hkn : kn ≤ 10) : chn r' kn' K' P' W' U' ((ua + 1) % 10) := by
  obtain ⟨d1, ⟨dk, dp, dw⟩, d3⟩ := hD
  obtain ⟨u1, u2⟩ := hU
  have hsn : ∀ j, j ≤ 8 → ∀ i, i < 58 → snp U' ((ua + 1) % 10) (j + 1) i = snp U ua j i := by
    intro j hj i hi
    show U' (58 * (((ua + 1) % 10 + 9 - (j + 1)) % 10) + i) = U (58 * ((ua + 9 - j) % 10) + i)
    rw [show ((ua + 1) % 10 + 9 - (j + 1)) % 10 = (ua + 9 - j) % 10 by omega]
    exact u2 _ (by omega)
  have hs0 : ∀ i, i < 58 → snp U' ((ua + 1) % 10) 0 i = r i := by
    intro i hi
    show U' (58 * (((ua + 1) % 10 + 9 - 0) % 10) + i) = r i
    rw [show ((ua + 1) % 10 + 9 - 0) % 10 = ua by omega]
    exact u1 i hi
  intro j hj
  match j with
  | 0 =>
    rw [show kn' - 1 - 0 = kn' - 1 by omega, dk, dp, dw]
    exact ⟨hv, fun i hi => (hs0 i hi).trans (ht i hi)⟩
  | j + 1 =>
    obtain ⟨e1, e2, e3⟩ := d3 j hj
    rw [show kn' - 1 - (j + 1) = kn' - 2 - j by omega, e1, e2, e3]
    obtain ⟨g1, g2⟩ := h j (by omega)
    have hst : ∀ i, i < 58 → stt r U ua j i = stt r' U' ((ua + 1) % 10) (j + 1) i := by
      intro i hi
      show _ = snp U' ((ua + 1) % 10) j i
      match j with
      | 0 => exact (hs0 i hi).symm
      | j + 1 => exact (hsn j (by omega) i hi).symm
    refine ⟨vd_cong hst g1, fun i hi => ?_⟩
    rw [hsn j (by omega) i hi, g2 i hi]
    exact tb_cong g1.p18 hst i hi
theorem chn_pop {r r' K P W U : Nat → Nat} {kn ua : Nat} (h : chn r kn K P W U ua) (hua : ua < 10) (hkn : kn ≤ 10) (hr : ∀ k, k < 58 → r' k = U (58 * ((ua + 9) % 10) + k)) : chn r' (kn - 1) K P W U ((ua + 9) % 10) := by
  have hsn : ∀ j, j ≤ 8 → ∀ i, snp U ((ua + 9) % 10) j i = snp U ua (j + 1) i := by
    intro j hj i
    show U (58 * (((ua + 9) % 10 + 9 - j) % 10) + i) = U (58 * ((ua + 9 - (j + 1)) % 10) + i)
    rw [show ((ua + 9) % 10 + 9 - j) % 10 = (ua + 9 - (j + 1)) % 10 by omega]
  intro j hj
  obtain ⟨g1, g2⟩ := h (j + 1) (by omega)
  rw [show kn - 1 - (j + 1) = kn - 1 - 1 - j by omega] at g1 g2
  have hst : ∀ i, i < 58 → stt r U ua (j + 1) i = stt r' U ((ua + 9) % 10) j i := by
    intro i hi
    show snp U ua j i = _
    match j with
    | 0 => exact (hr i hi).symm
    | j + 1 => exact (hsn j (by omega) i).symm
  refine ⟨vd_cong hst g1, fun i hi => ?_⟩
  rw [hsn j (by omega) i, g2 i hi]
  exact tb_cong g1.p18 hst i hi
def imOk (f : Nat) (t : shT) (Kp : Nat → Nat) (j : Nat) : Prop := f = 1 → shOk t ∧ Rel t (fun k => Kp (58 * j + k))
def Inv (sw : List va_E) : Prop := ∃ (s dr i0 i1 : shT) (T : Nat → Nat) (n : Nat) (x : Nat → Int32) (K P W : Nat → Nat) (kn sk : Nat) (ln nu fl r U fk Kp : Nat → Nat) (ua : Nat), clW s dr i0 i1 T n x K P W kn sk ln nu fl sw ∧ moW r U fk Kp T ln nu kn ua n sk sw ∧ shOk s ∧ Rel s r ∧ txOk T n ∧ kn ≤ 10 ∧ ua < 10 ∧ siOk sk ln nu ∧ (∀ j, j < 2 → fl j ≤ 1 ∧ fk j = fl j) ∧ imOk (fl 0) i0 Kp 0 ∧ imOk (fl 1) i1 Kp 1 ∧ chn r kn K P W U ua
theorem all_nI (x : Int32) : ∃ u, x = nI u := ⟨x.toBitVec.toNat, by
  apply Int32.toBitVec_inj.mp
  show x.toBitVec = BitVec.ofNat 32 x.toBitVec.toNat
  rw [BitVec.ofNat_toNat, BitVec.setWidth_eq]⟩
theorem and31 (x : Int32) : ∃ j, j < 32 ∧ x &&& nI 31 = nI j := by
  obtain ⟨u, rfl⟩ := all_nI x
  rw [nI_and]
  have : u &&& 31 ≤ 31 := Nat.and_le_right
  exact ⟨u &&& 31, by omega, rfl⟩
