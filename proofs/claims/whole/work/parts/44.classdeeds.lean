/-! the class: deeds, images, counts, places -/
theorem in_rng (z : Int32) {a b : Nat} (ha : a < 2 ^ 31) (hb : b < 2 ^ 31) (h1 : ¬ z < nI a) (h2 : ¬ nI b < z) : ∃ w, a ≤ w ∧ w ≤ b ∧ z = nI w := by
  rw [Int32.lt_iff_toInt_lt, nI_toInt ha] at h1
  rw [Int32.lt_iff_toInt_lt, nI_toInt hb] at h2
  obtain ⟨w, hw, e⟩ := nI_of (x := z) (fun q => by
    rw [Int32.lt_iff_toInt_lt, Int32.toInt_zero] at q
    omega)
  subst e
  rw [nI_toInt hw] at h1 h2
  exact ⟨w, by omega, by omega, rfl⟩
theorem nI_ltN {a b : Nat} (ha : a < 2 ^ 31) (hb : b < 2 ^ 31) (h : nI a < nI b) : a < b := (nI_ltI ha hb).mp h
def dvF (a : Nat) : Nat → Nat
  | 0 => 0
  | d + 1 => if 1 < d + 1 ∧ ¬ (a % (d + 1) = 0 ∧ 72 % (d + 1) = 0) then dvF a d else d + 1
def plN (f l w : Nat) : Nat := if w = 0 then f * l / 72 else if w = 1 then f * l % 72 / dvF (f * l % 72) 72 else 72 / dvF (f * l % 72) 72
noncomputable def ctN (s : shT) (kn sk n : Nat) (j : Nat) : Nat := match j with
  | 0 => s.2.2.2.2
  | 1 => sumN (fun l => totN (inkN s l)) s.2.2.2.2
  | 2 => sumN (fun l => npN (inkN s l) (s.1 1) 8) s.2.2.2.2
  | 3 => s.1 0
  | 4 => s.1 1
  | 5 => s.1 2
  | 6 => sk
  | 7 => n
  | _ => kn
section S7
variable {ε : gv_E} {d : Nat} {Qs : Option Value → List va_E → Prop} {sw : List va_E} {s dr i0 i1 : shT} {T : Nat → Nat} {n : Nat} {x : Nat → Int32} {K P W : Nat → Nat} {kn sk : Nat} {ln nu fl : Nat → Nat}
theorem sp_X7_mayBeSet (y z : Int32) (h1 : ∀ p w, rgOk p w → y = nI p → z = nI w → Qs (some (.int (nI 1))) sw) (h0 : ¬ (∃ p w, rgOk p w ∧ y = nI p ∧ z = nI w) → Qs (some (.int (nI 0))) sw) : gv_S ε d m_X7_mayBeSet [.int y, .int z] sw Qs := by
  refine gv_S.go rfl ?_
  refine t_X7_mayBeSet_0 (t_X7_mayBeSet_1 (fun h => ?_) (fun h => ?_))
  · refine t_X7_mayBeSet_31 (t_X7_mayBeSet_32 rfl (h0 (fun ⟨p, w, q1, q2, q3⟩ => ?_)))
    rw [q2] at h
    refine nI_pos (n := p) ?_ h
    rcases q1 with ⟨a, _⟩ | ⟨a, _⟩ | ⟨a, _⟩ <;> omega
  · obtain ⟨p, hp, e⟩ := nI_of h
    subst e
    refine t_X7_mayBeSet_4 (t_X7_mayBeSet_5 (t_X7_mayBeSet_6N (by omega) (by omega) (fun g => ?_) (fun g => ?_)))
    · refine t_X7_mayBeSet_31 (t_X7_mayBeSet_32 rfl (h0 (fun ⟨p', w, q1, q2, q3⟩ => ?_)))
      have q4 : p' < 3 := by rcases q1 with ⟨a, _⟩ | ⟨a, _⟩ | ⟨a, _⟩ <;> omega
      have := nI_inj (by omega) (by omega) q2
      omega
    · have key : ∀ (lo hi : Nat), lo < 100 → hi < 100 → (∀ w, rgOk p w ↔ lo ≤ w ∧ w ≤ hi) → (gv_x ε 1).2 p = nI lo → (gv_x ε 2).2 p = nI hi → gv_M ε d m_X7_mayBeSet sw.length Qs 9 [some (.int (nI p)), some (.int z)] [] sw 0 0 := by
        intro lo hi hlo hhi hiff e1 e2
        refine t_X7_mayBeSet_9 (t_X7_mayBeSet_10 (t_X7_mayBeSet_13 (t_X7_mayBeSet_14_x (j := 1) (by decide) p g rfl (Nat.le_of_ble_eq_true rfl) (?_))))
        rw [e1]
        refine t_X7_mayBeSet_15 (fun k1 => ?_) (fun k1 => ?_)
        · refine t_X7_mayBeSet_31 (t_X7_mayBeSet_32 rfl (h0 (fun ⟨p', w, q1, q2, q3⟩ => ?_)))
          have q4 : p' < 3 := by rcases q1 with ⟨a, _⟩ | ⟨a, _⟩ | ⟨a, _⟩ <;> omega
          have q5 := nI_inj (by omega) (by omega) q2
          subst q5
          have := (hiff w).mp q1
          rw [q3] at k1
          have := nI_ltN (by omega) (by omega) k1
          omega
        · refine t_X7_mayBeSet_18 (t_X7_mayBeSet_19 (t_X7_mayBeSet_22 (t_X7_mayBeSet_23_x (j := 2) (by decide) p g rfl (Nat.le_of_ble_eq_true rfl) (?_))))
          rw [e2]
          refine t_X7_mayBeSet_24 (fun k2 => ?_) (fun k2 => ?_)
          · refine t_X7_mayBeSet_31 (t_X7_mayBeSet_32 rfl (h0 (fun ⟨p', w, q1, q2, q3⟩ => ?_)))
            have q4 : p' < 3 := by rcases q1 with ⟨a, _⟩ | ⟨a, _⟩ | ⟨a, _⟩ <;> omega
            have q5 := nI_inj (by omega) (by omega) q2
            subst q5
            have := (hiff w).mp q1
            rw [q3] at k2
            have := nI_ltN (by omega) (by omega) k2
            omega
          · obtain ⟨w, a1, a2, a3⟩ := in_rng z (by omega) (by omega) k1 k2
            refine t_X7_mayBeSet_27 (t_X7_mayBeSet_28 (t_X7_mayBeSet_32 rfl ?_))
            exact h1 p w ((hiff w).mpr ⟨a1, a2⟩) rfl a3
      have hp3 : p = 0 ∨ p = 1 ∨ p = 2 := by omega
      rcases hp3 with e | e | e
      · subst e
        exact key 0 4 (by decide) (by decide) (fun w => by unfold rgOk; omega) rfl rfl
      · subst e
        exact key 0 9 (by decide) (by decide) (fun w => by unfold rgOk; omega) rfl rfl
      · subst e
        exact key 1 72 (by decide) (by decide) (fun w => by unfold rgOk; omega) rfl rfl
theorem sp_X7_sets (y z : Int32) (hC : clW s dr i0 i1 T n x K P W kn sk ln nu fl sw) (ho : shOk s) (hn : kn ≤ 10) (h0 : ¬ (∃ p w, rgOk p w ∧ y = nI p ∧ z = nI w) → Qs (some (.int (-1))) sw) (h1 : ∀ p w, rgOk p w → y = nI p → z = nI w → s.1 p = w → Qs (some (.int (-2))) sw) (h2 : ∀ p w, rgOk p w → y = nI p → z = nI w → s.1 p ≠ w → ∀ K' P' W' kn' sw', pushD K P W kn 4 p (s.1 p) K' P' W' kn' → clW (shSet s p w) dr i0 i1 T n x (K') (P') (W') (kn') sk ln nu fl sw' → same 0 44 sw sw' → Qs (some (.int (nI (s.1 p)))) sw') : gv_S ε (d + 3) m_X7_sets [.ref 0, .int y, .int z] sw Qs := by
  have h7 := hC.h7
  have h4 := hC.h4
  have hA : sw[3 + 1]? = some (.inl (0, 3, .inl (fun i => nI (s.1 i)))) := hC.2.2.1.at 1 rfl
  refine gv_S.go rfl ?_
  refine t_X7_sets_0 (t_X7_sets_1 (t_X7_sets_2 (Nat.le_of_ble_eq_true rfl) (sp_X7_mayBeSet y z (fun p w hr e1 e2 => ?_) (fun h => ?_))))
  · subst e1
    subst e2
    have hp : p < 3 := by rcases hr with ⟨a, _⟩ | ⟨a, _⟩ | ⟨a, _⟩ <;> omega
    have hw : w < 100 := by rcases hr with ⟨_, a⟩ | ⟨_, a⟩ | ⟨_, a⟩ <;> omega
    have hs : s.1 p < 100 := by
      obtain ⟨o1, o2, o3, _⟩ := ho
      have : p = 0 ∨ p = 1 ∨ p = 2 := by omega
      rcases this with e | e | e <;> subst e <;> omega
    refine t_X7_sets_5 (fun _ => ?_) (fun h => absurd h (by decide))
    refine t_X7_sets_10 (t_X7_sets_11 h7 rfl (t_X7_sets_14 h4 rfl (t_X7_sets_17 (t_X7_sets_18 hA p hp rfl (by decide) (t_X7_sets_19 (t_X7_sets_20 (t_X7_sets_21 (t_X7_sets_22N (by omega) (by omega) (fun g => ?_) (fun g => ?_)))))))))
    · refine t_X7_sets_28 (t_X7_sets_29 h7 rfl (t_X7_sets_32 h4 rfl (t_X7_sets_35 (t_X7_sets_36 (t_X7_sets_37 hA p hp rfl (by decide) (?_))))))
      rw [nI_set]
      have w2 : wt 3 (shF 3 (shSet s p w)) _ := hC.2.2.1.set 1 (.inl (0, 3, .inl (fun i => nI (if i = p then w else s.1 i)))) rfl
      have m2 : same 3 5 sw _ := same.set 4 (.inl (0, 3, .inl (fun i => nI (if i = p then w else s.1 i)))) rfl
      generalize List.set sw _ _ = sw2 at w2 m2 ⊢
      have hC2 := hC.sh w2 m2
      have k7 := hC2.h7
      have k2 := hC2.h2
      refine t_X7_sets_38 (t_X7_sets_39 k7 rfl (t_X7_sets_42 (t_X7_sets_43 (t_X7_sets_44 (t_X7_sets_45 k2 (Nat.le_of_ble_eq_true rfl) (sp_X2_note 4 p (s.1 p) hC2.2.2.2.2.1 hn (fun K' P' W' kn' sw3 hp3 w3 m3 => ?_)))))))
      refine t_X7_sets_48 (t_X7_sets_49 ?_)
      exact h2 p w hr rfl rfl g K' P' W' kn' sw3 hp3 (hC2.de w3 m3) ((m2.wide (b' := 0) (n' := 44) (by decide) (by decide)).tr (m3.wide (by decide) (by decide)))
    · refine t_X7_sets_25 (t_X7_sets_27 ?_)
      exact h1 p w hr rfl rfl g
  · refine t_X7_sets_5 (fun h => absurd rfl h) (fun _ => ?_)
    refine t_X7_sets_8 (t_X7_sets_9 ?_)
    exact h0 h
theorem sp_X7_draws (y z u : Int32) (hC : clW s dr i0 i1 T n x K P W kn sk ln nu fl sw) (ho : shOk s) (hn : kn ≤ 10) (h0 : ¬ (∃ a c w, a < 6 ∧ c < 3 ∧ w ≤ 255 ∧ y = nI a ∧ z = nI c ∧ u = nI w) → Qs (some (.int (-1))) sw) (h1 : ∀ a c w, a < 6 → c < 3 → w ≤ 255 → y = nI a → z = nI c → u = nI w → s.2.1 (3 * a + c) = w → Qs (some (.int (-2))) sw) (h2 : ∀ a c w, a < 6 → c < 3 → w ≤ 255 → y = nI a → z = nI c → u = nI w → s.2.1 (3 * a + c) ≠ w → ∀ K' P' W' kn' sw', pushD K P W kn 0 (3 * a + c) (s.2.1 (3 * a + c)) K' P' W' kn' → clW (shDraw s (3 * a + c) w) dr i0 i1 T n x (K') (P') (W') (kn') sk ln nu fl sw' → same 0 44 sw sw' → Qs (some (.int (nI (s.2.1 (3 * a + c))))) sw') : gv_S ε (d + 3) m_X7_draws [.ref 0, .int y, .int z, .int u] sw Qs := by
  have h7 := hC.h7
  have h4 := hC.h4
  have hA : sw[3 + 2]? = some (.inl (0, 18, .inl (fun i => nI (s.2.1 i)))) := hC.2.2.1.at 2 rfl
  refine gv_S.go rfl ?_
  refine t_X7_draws_0 (t_X7_draws_1 (t_X7_draws_2 (Nat.le_of_ble_eq_true rfl) (sp_X7_isColumnOfLetter y z (fun a c ha hc e1 e2 => ?_) (fun h => ?_))))
  · subst e1
    subst e2
    refine t_X7_draws_5 (fun h => absurd h (by decide)) (fun _ => ?_)
    refine t_X7_draws_8 (t_X7_draws_9 (fun h => ?_) (fun h => ?_))
    · refine t_X7_draws_19 (t_X7_draws_20 ?_)
      refine h0 (fun ⟨a, c, w, q1, q2, q3, q4, q5, q6⟩ => ?_)
      rw [q6] at h
      exact nI_pos (by omega) h
    · obtain ⟨w, hw, e⟩ := nI_of h
      subst e
      refine t_X7_draws_12 (t_X7_draws_13 (t_X7_draws_16N (by omega) (by omega) (fun g => ?_) (fun g => ?_)))
      · have ho4 := ho.2.2.2.1 (3 * a + c) (by omega)
        refine t_X7_draws_21 (t_X7_draws_22 (t_X7_draws_23N (t_X7_draws_24 (t_X7_draws_25N (?_)))))
        rw [Nat.mul_comm a 3]
        refine t_X7_draws_26 (t_X7_draws_28 (t_X7_draws_29 h7 rfl (t_X7_draws_32 h4 rfl (t_X7_draws_35 (t_X7_draws_37 hA (3 * a + c) (by omega) rfl (by decide) (t_X7_draws_38 (t_X7_draws_40 (t_X7_draws_42 (t_X7_draws_43N (by omega) (by omega) (fun k => ?_) (fun k => ?_))))))))))
        · refine t_X7_draws_49 (t_X7_draws_50 h7 rfl (t_X7_draws_53 h4 rfl (t_X7_draws_56 (t_X7_draws_58 (t_X7_draws_59 hA (3 * a + c) (by omega) rfl (by decide) (?_))))))
          rw [nI_set]
          have w2 : wt 3 (shF 3 (shDraw s (3 * a + c) w)) _ := hC.2.2.1.set 2 (.inl (0, 18, .inl (fun i => nI (if i = 3 * a + c then w else s.2.1 i)))) rfl
          have m2 : same 3 5 sw _ := same.set 5 (.inl (0, 18, .inl (fun i => nI (if i = 3 * a + c then w else s.2.1 i)))) rfl
          generalize List.set sw _ _ = sw2 at w2 m2 ⊢
          have hC2 := hC.sh w2 m2
          have k7 := hC2.h7
          have k2 := hC2.h2
          refine t_X7_draws_60 (t_X7_draws_61 k7 rfl (t_X7_draws_64 (t_X7_draws_65 (t_X7_draws_67 (t_X7_draws_69 k2 (Nat.le_of_ble_eq_true rfl) (sp_X2_note 0 (3 * a + c) (s.2.1 (3 * a + c)) hC2.2.2.2.2.1 hn (fun K' P' W' kn' sw3 hp3 w3 m3 => ?_)))))))
          refine t_X7_draws_72 (t_X7_draws_74 ?_)
          exact h2 a c w ha hc g rfl rfl rfl k K' P' W' kn' sw3 hp3 (hC2.de w3 m3) ((m2.wide (b' := 0) (n' := 44) (by decide) (by decide)).tr (m3.wide (by decide) (by decide)))
        · refine t_X7_draws_46 (t_X7_draws_48 ?_)
          exact h1 a c w ha hc g rfl rfl rfl k
      · refine t_X7_draws_19 (t_X7_draws_20 ?_)
        refine h0 (fun ⟨a, c, w, q1, q2, q3, q4, q5, q6⟩ => ?_)
        have := nI_inj (by omega) (by omega) q6
        omega
  · refine t_X7_draws_5 (fun _ => ?_) (fun h => absurd rfl h)
    refine t_X7_draws_19 (t_X7_draws_20 ?_)
    exact h0 (fun ⟨a, c, w, q1, q2, q3, q4, q5, q6⟩ => h ⟨a, c, q1, q2, q4, q5⟩)
theorem sp_X7_strikes (y : Int32) (hC : clW s dr i0 i1 T n x K P W kn sk ln nu fl sw) (ho : shOk s) (hn : kn ≤ 10) (h0 : (∀ l, l < s.2.2.2.2 → y ≠ nI l) → Qs (some (.int (-1))) sw) (h1 : ∀ l, l < s.2.2.2.2 → y = nI l → s.2.2.1 l = 0 → Qs (some (.int (-2))) sw) (h2 : ∀ l, l < s.2.2.2.2 → y = nI l → 0 < s.2.2.1 l → ∀ K' P' W' kn' sw', pushD K P W kn 3 l (s.2.2.2.1 (8 * l + (s.2.2.1 l - 1))) K' P' W' kn' → clW (shCh s l) dr i0 i1 T n x (K') (P') (W') (kn') sk ln nu fl sw' → same 0 44 sw sw' → Qs (some (.int (nI (s.2.2.2.1 (8 * l + (s.2.2.1 l - 1)))))) sw') : gv_S ε (d + 3) m_X7_strikes [.ref 0, .int y] sw Qs := by
  have h7 := hC.h7
  have h4 := hC.h4
  refine gv_S.go rfl ?_
  refine t_X7_strikes_0 (t_X7_strikes_1 h7 rfl (t_X7_strikes_4 (t_X7_strikes_5 h4 (Nat.le_of_ble_eq_true rfl) (sp_X4_hasLine y hC.2.2.1 ho.2.2.2.2.1 (fun l hl e => ?_) (fun h => ?_)))))
  · subst e
    refine t_X7_strikes_8 (fun _ => ?_) (fun h => absurd h (by decide))
    refine t_X7_strikes_13 (t_X7_strikes_14 h7 rfl (t_X7_strikes_17 (t_X7_strikes_18 h4 (Nat.le_of_ble_eq_true rfl) (sp_X4_chop l hC.2.2.1 ho.2.2.2.2.1 hl (ho.2.2.2.2.2.1 l hl) (fun q => ?_) (fun q sw1 w1 m1 => ?_)))))
    · refine t_X7_strikes_21 (t_X7_strikes_22 (t_X7_strikes_23 (t_X7_strikes_25 (fun h => absurd rfl h) (fun _ => ?_))))
      refine t_X7_strikes_28 (t_X7_strikes_30 ?_)
      exact h1 l hl rfl q
    · have hC1 := hC.sh w1 m1
      have k7 := hC1.h7
      have k2 := hC1.h2
      have hg := ho.2.2.2.2.2.2 l (s.2.2.1 l - 1) hl (by omega)
      refine t_X7_strikes_21 (t_X7_strikes_22 (t_X7_strikes_23 (t_X7_strikes_25 (fun _ => ?_) (fun h => ?_))))
      · refine t_X7_strikes_31 (t_X7_strikes_32 k7 rfl (t_X7_strikes_35 (t_X7_strikes_36 (t_X7_strikes_37 (t_X7_strikes_38 k2 (Nat.le_of_ble_eq_true rfl) (sp_X2_note 3 l (s.2.2.2.1 (8 * l + (s.2.2.1 l - 1))) hC1.2.2.2.2.1 hn (fun K' P' W' kn' sw3 hp3 w3 m3 => ?_)))))))
        refine t_X7_strikes_41 (t_X7_strikes_42 ?_)
        exact h2 l hl rfl q K' P' W' kn' sw3 hp3 (hC1.de w3 m3) ((m1.wide (b' := 0) (n' := 44) (by decide) (by decide)).tr (m3.wide (by decide) (by decide)))
      · exfalso
        have := congrArg Int32.toInt h
        rw [nI_toInt (by omega)] at this
        have e9 : (-9 : Int32).toInt = -9 := by decide
        omega
  · refine t_X7_strikes_8 (fun h => absurd rfl h) (fun _ => ?_)
    refine t_X7_strikes_11 (t_X7_strikes_12 ?_)
    exact h0 h
theorem sp_X7_undo (hC : clW s dr i0 i1 T n x K P W kn sk ln nu fl sw) (ho : shOk s) (hn : kn ≤ 10) (hv : 0 < kn → vdS (K (kn - 1)) (P (kn - 1)) (W (kn - 1)) s) (h0 : kn = 0 → Qs (some (.int (-2))) sw) (h1 : 0 < kn → ∀ sw', clW (tbS (K (kn - 1)) (P (kn - 1)) (W (kn - 1)) s) dr i0 i1 T n x K P W (kn - 1) sk ln nu fl sw' → same 0 44 sw sw' → Qs (some (.int (nI (kn - 1)))) sw') : gv_S ε (d + 3) m_X7_undo [.ref 0] sw Qs := by
  have h7 := hC.h7
  have h2 := hC.h2
  refine gv_S.go rfl ?_
  refine t_X7_undo_0 (t_X7_undo_1 h7 rfl (t_X7_undo_4 (t_X7_undo_5 h7 rfl (t_X7_undo_8 h2 (Nat.le_of_ble_eq_true rfl) (sp_X2_takeBack hC.2.2.2.2.1 hC.2.2.1 ho hn hv (fun q => ?_) (fun q sw1 sw2 w1 m1 w2 m2 => ?_))))))
  · refine t_X7_undo_11 (fun _ => ?_) (fun h => absurd rfl h)
    refine t_X7_undo_24 (t_X7_undo_26 ?_)
    exact h0 q
  · have hC1 := (hC.de w1 m1).sh w2 m2
    have k7 := hC1.h7
    have k2 := hC1.h2
    refine t_X7_undo_11 (fun h => absurd h (by decide)) (fun _ => ?_)
    refine t_X7_undo_14 (t_X7_undo_15 k7 rfl (t_X7_undo_18 k2 rfl (t_X7_undo_21 (t_X7_undo_26 ?_))))
    exact h1 q sw2 hC1 ((m1.wide (b' := 0) (n' := 44) (by decide) (by decide)).tr (m2.wide (by decide) (by decide)))
theorem sp_X7_types (y z : Int32) (hC : clW s dr i0 i1 T n x K P W kn sk ln nu fl sw) (ho : shOk s) (hn : kn ≤ 10) (h0 : ¬ (∃ l g, l ≤ s.2.2.2.2 ∧ g ≤ 6 ∧ y = nI l ∧ z = nI g) → Qs (some (.int (-1))) sw) (h1 : ∀ l g, l ≤ s.2.2.2.2 → g ≤ 6 → y = nI l → z = nI g → (l = 4 ∨ (l < s.2.2.2.2 ∧ s.2.2.1 l = 8)) → Qs (some (.int (-3))) sw) (h2 : ∀ l g, l < s.2.2.2.2 → g ≤ 6 → y = nI l → z = nI g → s.2.2.1 l < 8 → ∀ K' P' W' kn' sw', pushD K P W kn 1 l g K' P' W' kn' → clW (shApp s l g) dr i0 i1 T n x (K') (P') (W') (kn') sk ln nu fl sw' → same 0 44 sw sw' → Qs (some (.int (nI (s.2.2.1 l + 1)))) sw') (h3 : ∀ g, s.2.2.2.2 < 4 → g ≤ 6 → y = nI s.2.2.2.2 → z = nI g → ∀ K' P' W' kn' sw', pushD K P W kn 2 s.2.2.2.2 g K' P' W' kn' → clW (shApp (shBeg s) s.2.2.2.2 g) dr i0 i1 T n x (K') (P') (W') (kn') sk ln nu fl sw' → same 0 44 sw sw' → Qs (some (.int (nI 1))) sw') : gv_S ε (d + 3) m_X7_types [.ref 0, .int y, .int z] sw Qs := by
  have h7 := hC.h7
  have h4 := hC.h4
  have hl4 := ho.2.2.2.2.1
  refine gv_S.go rfl ?_
  refine t_X7_types_0 (t_X7_types_1 (fun h => ?_) (fun h => ?_))
  · refine t_X7_types_25 (t_X7_types_26 ?_)
    refine h0 (fun ⟨l, g, q1, q2, q3, q4⟩ => ?_)
    rw [q3] at h
    exact nI_pos (by omega) h
  · obtain ⟨l, hl, e⟩ := nI_of h
    subst e
    refine t_X7_types_4 (t_X7_types_5 (t_X7_types_6 h7 rfl (t_X7_types_9 h4 rfl (t_X7_types_12N (by omega) (by omega) (fun k => ?_) (fun k => ?_)))))
    · refine t_X7_types_25 (t_X7_types_26 ?_)
      refine h0 (fun ⟨l', g, q1, q2, q3, q4⟩ => ?_)
      have := nI_inj (by omega) (by omega) q3
      omega
    · refine t_X7_types_15 (t_X7_types_16 (fun h => ?_) (fun h => ?_))
      · refine t_X7_types_25 (t_X7_types_26 ?_)
        refine h0 (fun ⟨l, g, q1, q2, q3, q4⟩ => ?_)
        rw [q4] at h
        exact nI_pos (by omega) h
      · obtain ⟨g, hg, e⟩ := nI_of h
        subst e
        refine t_X7_types_19 (t_X7_types_20 (t_X7_types_22N (by omega) (by omega) (fun k6 => ?_) (fun k6 => ?_)))
        · by_cases hf : l = s.2.2.2.2
          · subst hf
            refine t_X7_types_27 (t_X7_types_28 (t_X7_types_29 h7 rfl (t_X7_types_32 h4 rfl (t_X7_types_35N (by omega) (by omega) (fun q => absurd rfl q) (fun _ => ?_)))))
            refine t_X7_types_38 (t_X7_types_39 (t_X7_types_43 (t_X7_types_44 (t_X7_types_45 (fun h => absurd h (by decide)) (fun _ => ?_)))))
            refine t_X7_types_48 (t_X7_types_49 h7 rfl (t_X7_types_52 h4 (Nat.le_of_ble_eq_true rfl) (sp_X4_begin hC.2.2.1 hl4 (fun q => ?_) (fun q sw1 w1 m1 => ?_))))
            · refine t_X7_types_55 (fun h => absurd rfl h) (fun _ => ?_)
              refine t_X7_types_58 (t_X7_types_60 ?_)
              exact h1 _ g k k6 rfl rfl (Or.inl q)
            · have hC1 := hC.sh w1 m1
              have k7 := hC1.h7
              have k4 := hC1.h4
              refine t_X7_types_55 (fun _ => ?_) (fun h => absurd h (by decide))
              have e0 : (shBeg s).2.2.1 s.2.2.2.2 = 0 := up_at _ _ _
              refine t_X7_types_61 (t_X7_types_62 k7 rfl (t_X7_types_65 (t_X7_types_66 (t_X7_types_67 k4 (Nat.le_of_ble_eq_true rfl) (sp_X4_append s.2.2.2.2 g w1 (show s.2.2.2.2 + 1 ≤ 4 from q) (Nat.lt_succ_self _) (by rw [e0]; omega) (fun z => absurd z (by rw [e0]; omega)) (fun _ sw2 w2 m2 => ?_))))))
              have hC2 := hC1.sh w2 m2
              have k7 := hC2.h7
              have k2 := hC2.h2
              refine t_X7_types_70 (fun _ => ?_) (fun h => absurd h (by decide))
              refine t_X7_types_76 (t_X7_types_77 k7 rfl (t_X7_types_80 (t_X7_types_81 (fun h => absurd h (by decide)) (fun _ => ?_))))
              refine t_X7_types_84 (t_X7_types_85 (t_X7_types_89 (t_X7_types_90 (t_X7_types_91 k2 (Nat.le_of_ble_eq_true rfl) (sp_X2_note 2 s.2.2.2.2 g hC2.2.2.2.2.1 hn (fun K' P' W' kn' sw3 hp3 w3 m3 => ?_))))))
              have hC3 := hC2.de w3 m3
              have j7 := hC3.h7
              have j4 := hC3.h4
              have jA : sw3[3 + 3]? = some (.inl (0, 4, .inl (fun i => nI ((shApp (shBeg s) s.2.2.2.2 g).2.2.1 i)))) := hC3.2.2.1.at 3 rfl
              refine t_X7_types_94 (t_X7_types_95 j7 rfl (t_X7_types_98 j4 rfl (t_X7_types_101 (t_X7_types_102 jA s.2.2.2.2 (by omega) rfl (by decide) (t_X7_types_103 ?_)))))
              have e1 : (shApp (shBeg s) s.2.2.2.2 g).2.2.1 s.2.2.2.2 = 1 := by
                show up _ _ _ _ = 1
                rw [up_at, e0]
              rw [e1]
              exact h3 g q k6 rfl rfl K' P' W' kn' sw3 hp3 hC3 (((m1.wide (b' := 0) (n' := 44) (by decide) (by decide)).tr (m2.wide (by decide) (by decide))).tr (m3.wide (by decide) (by decide)))
          · have hl2 : l < s.2.2.2.2 := by omega
            have hlen := ho.2.2.2.2.2.1 l hl2
            refine t_X7_types_27 (t_X7_types_28 (t_X7_types_29 h7 rfl (t_X7_types_32 h4 rfl (t_X7_types_35N (by omega) (by omega) (fun _ => ?_) (fun q => absurd q hf)))))
            refine t_X7_types_42 (t_X7_types_43 (t_X7_types_44 (t_X7_types_45 (fun _ => ?_) (fun h => absurd rfl h))))
            refine t_X7_types_61 (t_X7_types_62 h7 rfl (t_X7_types_65 (t_X7_types_66 (t_X7_types_67 h4 (Nat.le_of_ble_eq_true rfl) (sp_X4_append l g hC.2.2.1 hl4 hl2 hlen (fun z => ?_) (fun q sw2 w2 m2 => ?_))))))
            · refine t_X7_types_70 (fun h => absurd rfl h) (fun _ => ?_)
              refine t_X7_types_73 (t_X7_types_75 ?_)
              exact h1 l g k k6 rfl rfl (Or.inr ⟨hl2, z⟩)
            · have hC2 := hC.sh w2 m2
              have k7 := hC2.h7
              have k2 := hC2.h2
              refine t_X7_types_70 (fun _ => ?_) (fun h => absurd h (by decide))
              refine t_X7_types_76 (t_X7_types_77 k7 rfl (t_X7_types_80 (t_X7_types_81 (fun _ => ?_) (fun h => absurd rfl h))))
              refine t_X7_types_88 (t_X7_types_89 (t_X7_types_90 (t_X7_types_91 k2 (Nat.le_of_ble_eq_true rfl) (sp_X2_note 1 l g hC2.2.2.2.2.1 hn (fun K' P' W' kn' sw3 hp3 w3 m3 => ?_)))))
              have hC3 := hC2.de w3 m3
              have j7 := hC3.h7
              have j4 := hC3.h4
              have jA : sw3[3 + 3]? = some (.inl (0, 4, .inl (fun i => nI ((shApp s l g).2.2.1 i)))) := hC3.2.2.1.at 3 rfl
              refine t_X7_types_94 (t_X7_types_95 j7 rfl (t_X7_types_98 j4 rfl (t_X7_types_101 (t_X7_types_102 jA l (by omega) rfl (by decide) (t_X7_types_103 ?_)))))
              have e1 : (shApp s l g).2.2.1 l = s.2.2.1 l + 1 := up_at _ _ _
              rw [e1]
              exact h2 l g hl2 k6 rfl rfl q K' P' W' kn' sw3 hp3 hC3 ((m2.wide (b' := 0) (n' := 44) (by decide) (by decide)).tr (m3.wide (by decide) (by decide)))
        · refine t_X7_types_25 (t_X7_types_26 ?_)
          refine h0 (fun ⟨l', g', q1, q2, q3, q4⟩ => ?_)
          have := nI_inj (by omega) (by omega) q4
          omega
theorem nar1 : vp_nar .boolean (nI 1) = nI 1 := by decide +kernel
theorem nar0 : vp_nar .boolean (nI 0) = nI 0 := by decide +kernel
theorem sp_X7_keep (y : Int32) (hC : clW s dr i0 i1 T n x K P W kn sk ln nu fl sw) (h0 : (∀ j, j < 2 → y ≠ nI j) → Qs (some (.int (-1))) sw) (h1 : y = nI 0 → ∀ sw', clW s dr (shCp s i0) i1 T n x K P W kn sk ln nu (up fl 0 1) sw' → same 0 44 sw sw' → Qs (some (.int (nI s.2.2.2.2))) sw') (h2 : y = nI 1 → ∀ sw', clW s dr i0 (shCp s i1) T n x K P W kn sk ln nu (up fl 1 1) sw' → same 0 44 sw sw' → Qs (some (.int (nI s.2.2.2.2))) sw') : gv_S ε (d + 2) m_X7_keep [.ref 0, .int y] sw Qs := by
  have h7 := hC.h7
  have h4 := hC.h4
  obtain ⟨f, f0, f1, hI⟩ := id hC.2.2.2.2.2.2.1
  have hA : sw[20]? = some (.inl (2, 2, .inr (.inr (.inr (.inr f))))) := hI.at 0 rfl
  refine gv_S.go rfl ?_
  refine t_X7_keep_0 (t_X7_keep_1 (fun h => ?_) (fun h => ?_))
  · refine t_X7_keep_9 (t_X7_keep_10 ?_)
    refine h0 (fun j hj e => ?_)
    rw [e] at h
    exact nI_pos (by omega) h
  · obtain ⟨j, hj, e⟩ := nI_of h
    subst e
    refine t_X7_keep_4 (t_X7_keep_5 (t_X7_keep_6N (by omega) (by omega) (fun g => ?_) (fun g => ?_)))
    · have hj2 : j = 0 ∨ j = 1 := by omega
      rcases hj2 with e | e
      · subst e
        have c4 : sw[34]? = some (.inr (4, [.ref (34 + 1), .ref (34 + 2), .ref (34 + 3), .ref (34 + 4), .int (nI i0.2.2.2.2)])) := hC.2.2.2.2.2.2.2.2.1.at 0 rfl
        refine t_X7_keep_11 (t_X7_keep_12 h7 rfl (t_X7_keep_15 (t_X7_keep_16 hA (vp_in_nI (by decide) (by decide)) (by rw [nI_clamp (by decide)]; exact f0) (t_X7_keep_17 (t_X7_keep_18 h7 rfl (t_X7_keep_21 c4 (Nat.le_of_ble_eq_true rfl) (sp_X4_become hC.2.2.2.2.2.2.2.2.1 hC.2.2.1 (by decide) (fun sw1 w1 m1 => ?_))))))))
        have hC1 := hC.m0 w1 m1
        have hI1 := hI.keep m1 rfl
        have k7 := hC1.h7
        have hB : sw1[21]? = some (.inl (1, 2, .inl (fun i => nI (fl i)))) := hI1.at 1 rfl
        refine t_X7_keep_24 (t_X7_keep_25 k7 rfl (t_X7_keep_28 (t_X7_keep_29 (t_X7_keep_30 hB (vp_in_nI (by decide) (by decide)) (?_)))))
        rw [nar1, nI_clamp (by decide), nI_set]
        have w2 : wt 20 (imF f (up fl 0 1)) _ := hI1.set 1 (.inl (1, 2, .inl (fun i => nI (if i = 0 then 1 else fl i)))) rfl
        have m2 : same 20 2 sw1 _ := same.set 21 (.inl (1, 2, .inl (fun i => nI (if i = 0 then 1 else fl i)))) rfl
        generalize List.set sw1 _ _ = sw2 at w2 m2 ⊢
        have hC2 := hC1.im ⟨f, f0, f1, w2⟩ m2
        have j7 := hC2.h7
        have j4 := hC2.h4
        refine t_X7_keep_31 (t_X7_keep_32 j7 rfl (t_X7_keep_35 j4 rfl (t_X7_keep_38 ?_)))
        exact h1 rfl sw2 hC2 ((m1.wide (b' := 0) (n' := 44) (by decide) (by decide)).tr (m2.wide (by decide) (by decide)))
      · subst e
        have c4 : sw[39]? = some (.inr (4, [.ref (39 + 1), .ref (39 + 2), .ref (39 + 3), .ref (39 + 4), .int (nI i1.2.2.2.2)])) := hC.2.2.2.2.2.2.2.2.2.at 0 rfl
        refine t_X7_keep_11 (t_X7_keep_12 h7 rfl (t_X7_keep_15 (t_X7_keep_16 hA (vp_in_nI (by decide) (by decide)) (by rw [nI_clamp (by decide)]; exact f1) (t_X7_keep_17 (t_X7_keep_18 h7 rfl (t_X7_keep_21 c4 (Nat.le_of_ble_eq_true rfl) (sp_X4_become hC.2.2.2.2.2.2.2.2.2 hC.2.2.1 (by decide) (fun sw1 w1 m1 => ?_))))))))
        have hC1 := hC.m1 w1 m1
        have hI1 := hI.keep m1 rfl
        have k7 := hC1.h7
        have hB : sw1[21]? = some (.inl (1, 2, .inl (fun i => nI (fl i)))) := hI1.at 1 rfl
        refine t_X7_keep_24 (t_X7_keep_25 k7 rfl (t_X7_keep_28 (t_X7_keep_29 (t_X7_keep_30 hB (vp_in_nI (by decide) (by decide)) (?_)))))
        rw [nar1, nI_clamp (by decide), nI_set]
        have w2 : wt 20 (imF f (up fl 1 1)) _ := hI1.set 1 (.inl (1, 2, .inl (fun i => nI (if i = 1 then 1 else fl i)))) rfl
        have m2 : same 20 2 sw1 _ := same.set 21 (.inl (1, 2, .inl (fun i => nI (if i = 1 then 1 else fl i)))) rfl
        generalize List.set sw1 _ _ = sw2 at w2 m2 ⊢
        have hC2 := hC1.im ⟨f, f0, f1, w2⟩ m2
        have j7 := hC2.h7
        have j4 := hC2.h4
        refine t_X7_keep_31 (t_X7_keep_32 j7 rfl (t_X7_keep_35 j4 rfl (t_X7_keep_38 ?_)))
        exact h2 rfl sw2 hC2 ((m1.wide (b' := 0) (n' := 44) (by decide) (by decide)).tr (m2.wide (by decide) (by decide)))
    · refine t_X7_keep_9 (t_X7_keep_10 ?_)
      refine h0 (fun j' hj' e => ?_)
      have := nI_inj (by omega) (by omega) e
      omega
theorem sp_X7_back (y : Int32) (hC : clW s dr i0 i1 T n x K P W kn sk ln nu fl sw) (hfl : ∀ j, j < 2 → fl j ≤ 1) (h0 : (∀ j, j < 2 → y ≠ nI j) → Qs (some (.int (-1))) sw) (hN : ∀ j, j < 2 → y = nI j → fl j = 0 → Qs (some (.int (-2))) sw) (h1 : y = nI 0 → fl 0 = 1 → ∀ sw', clW (shCp i0 s) dr i0 i1 T n x K P W (0) sk ln nu fl sw' → same 0 44 sw sw' → Qs (some (.int (nI i0.2.2.2.2))) sw') (h2 : y = nI 1 → fl 1 = 1 → ∀ sw', clW (shCp i1 s) dr i0 i1 T n x K P W (0) sk ln nu fl sw' → same 0 44 sw sw' → Qs (some (.int (nI i1.2.2.2.2))) sw') : gv_S ε (d + 2) m_X7_back [.ref 0, .int y] sw Qs := by
  have h7 := hC.h7
  have h4 := hC.h4
  obtain ⟨f, f0, f1, hI⟩ := id hC.2.2.2.2.2.2.1
  have hA : sw[20]? = some (.inl (2, 2, .inr (.inr (.inr (.inr f))))) := hI.at 0 rfl
  have hB : sw[21]? = some (.inl (1, 2, .inl (fun i => nI (fl i)))) := hI.at 1 rfl
  refine gv_S.go rfl ?_
  refine t_X7_back_0 (t_X7_back_1 (fun h => ?_) (fun h => ?_))
  · refine t_X7_back_9 (t_X7_back_10 ?_)
    refine h0 (fun j hj e => ?_)
    rw [e] at h
    exact nI_pos (by omega) h
  · obtain ⟨j, hj, e⟩ := nI_of h
    subst e
    refine t_X7_back_4 (t_X7_back_5 (t_X7_back_6N (by omega) (by omega) (fun g => ?_) (fun g => ?_)))
    · have hf1 := hfl j g
      refine t_X7_back_11 (t_X7_back_12 h7 rfl (t_X7_back_15 (t_X7_back_16 hB (vp_in_nI g (by decide)) (?_))))
      rw [nI_clamp hj]
      refine t_X7_back_17N (by omega) (fun k => ?_) (fun k => ?_)
      · have hj2 : j = 0 ∨ j = 1 := by omega
        rcases hj2 with e | e
        · subst e
          refine t_X7_back_23 (t_X7_back_24 h7 rfl (t_X7_back_27 (t_X7_back_28 h7 rfl (t_X7_back_31 (t_X7_back_32 hA (vp_in_nI (by decide) (by decide)) (by rw [nI_clamp (by decide)]; exact f0) (t_X7_back_33 h4 (Nat.le_of_ble_eq_true rfl) (sp_X4_become hC.2.2.1 hC.2.2.2.2.2.2.2.2.1 (by decide) (fun sw1 w1 m1 => ?_))))))))
          have hC1 := hC.sh w1 m1
          have k7 := hC1.h7
          have k2 := hC1.h2
          refine t_X7_back_36 (t_X7_back_37 k7 rfl (t_X7_back_40 (t_X7_back_41 k2 rfl (?_))))
          have w2 : wt 13 (deF K P W 0) _ := hC1.2.2.2.2.1.set 0 (.inr (2, [.ref 14, .ref 15, .ref 16, .int (nI 0)])) rfl
          have m2 : same 13 4 sw1 _ := same.set 13 (.inr (2, [.ref 14, .ref 15, .ref 16, .int (nI 0)])) rfl
          show gv_M ε (d + 2) m_X7_back sw.length Qs 44 _ _ (List.set sw1 (13 + 0) (.inr (2, [.ref 14, .ref 15, .ref 16, .int (nI 0)]))) 0 0
          generalize List.set sw1 _ _ = sw2 at w2 m2 ⊢
          have hC2 := hC1.de w2 m2
          have j7 := hC2.h7
          have j4 := hC2.h4
          refine t_X7_back_44 (t_X7_back_45 j7 rfl (t_X7_back_48 j4 rfl (t_X7_back_51 ?_)))
          exact h1 rfl (by omega) sw2 hC2 ((m1.wide (b' := 0) (n' := 44) (by decide) (by decide)).tr (m2.wide (by decide) (by decide)))
        · subst e
          refine t_X7_back_23 (t_X7_back_24 h7 rfl (t_X7_back_27 (t_X7_back_28 h7 rfl (t_X7_back_31 (t_X7_back_32 hA (vp_in_nI (by decide) (by decide)) (by rw [nI_clamp (by decide)]; exact f1) (t_X7_back_33 h4 (Nat.le_of_ble_eq_true rfl) (sp_X4_become hC.2.2.1 hC.2.2.2.2.2.2.2.2.2 (by decide) (fun sw1 w1 m1 => ?_))))))))
          have hC1 := hC.sh w1 m1
          have k7 := hC1.h7
          have k2 := hC1.h2
          refine t_X7_back_36 (t_X7_back_37 k7 rfl (t_X7_back_40 (t_X7_back_41 k2 rfl (?_))))
          have w2 : wt 13 (deF K P W 0) _ := hC1.2.2.2.2.1.set 0 (.inr (2, [.ref 14, .ref 15, .ref 16, .int (nI 0)])) rfl
          have m2 : same 13 4 sw1 _ := same.set 13 (.inr (2, [.ref 14, .ref 15, .ref 16, .int (nI 0)])) rfl
          show gv_M ε (d + 2) m_X7_back sw.length Qs 44 _ _ (List.set sw1 (13 + 0) (.inr (2, [.ref 14, .ref 15, .ref 16, .int (nI 0)]))) 0 0
          generalize List.set sw1 _ _ = sw2 at w2 m2 ⊢
          have hC2 := hC1.de w2 m2
          have j7 := hC2.h7
          have j4 := hC2.h4
          refine t_X7_back_44 (t_X7_back_45 j7 rfl (t_X7_back_48 j4 rfl (t_X7_back_51 ?_)))
          exact h2 rfl (by omega) sw2 hC2 ((m1.wide (b' := 0) (n' := 44) (by decide) (by decide)).tr (m2.wide (by decide) (by decide)))
      · refine t_X7_back_20 (t_X7_back_22 ?_)
        exact hN j g rfl k
    · refine t_X7_back_9 (t_X7_back_10 ?_)
      refine h0 (fun j' hj' e => ?_)
      have := nI_inj (by omega) (by omega) e
      omega
theorem sp_X7_count (y : Int32) (hC : clW s dr i0 i1 T n x K P W kn sk ln nu fl sw) (ho : shOk s) (h0 : (∀ j, j < 9 → y ≠ nI j) → Qs (some (.int (-1))) sw) (h1 : ∀ j, j < 9 → y = nI j → ∀ sw', scr sw' → same 22 12 sw sw' → Qs (some (.int (nI (ctN s kn sk n j)))) sw') : gv_S ε (d + 5) m_X7_count [.ref 0, .int y] sw Qs := by
  have h7 := hC.h7
  have h4 := hC.h4
  have h5 := hC.h5
  have h3 := hC.h3
  have h2 := hC.h2
  have hA : sw[3 + 1]? = some (.inl (0, 3, .inl (fun i => nI (s.1 i)))) := hC.2.2.1.at 1 rfl
  refine gv_S.go rfl ?_
  rcases arg_in y (n := 9) (by decide) with q | q | ⟨j, hj, e⟩
  · refine t_X7_count_0 (t_X7_count_1_d (Or.inl (by rw [Int32.lt_iff_toInt_lt, Int32.toInt_zero] at q; exact q)) ?_)
    refine t_X7_count_124 (t_X7_count_125 ?_)
    refine h0 (fun j hj e => ?_)
    rw [e] at q
    exact nI_pos (by omega) q
  · refine t_X7_count_0 (t_X7_count_1_d (Or.inr (by rw [Int32.le_iff_toInt_le, nI_toInt (by decide)] at q; omega)) ?_)
    refine t_X7_count_124 (t_X7_count_125 ?_)
    refine h0 (fun j hj e => ?_)
    rw [e] at q
    exact nI_ge hj (by decide) q
  · subst e
    have fin := h1 j hj rfl
    have hj9 : j = 0 ∨ j = 1 ∨ j = 2 ∨ j = 3 ∨ j = 4 ∨ j = 5 ∨ j = 6 ∨ j = 7 ∨ j = 8 := by omega
    rcases hj9 with e | e | e | e | e | e | e | e | e <;> subst e
    · refine t_X7_count_0 (t_X7_count_1_0 ?_)
      refine t_X7_count_52 (t_X7_count_53 h7 rfl (t_X7_count_56 h4 rfl (t_X7_count_59 ?_)))
      exact fin sw hC.scr same.rf
    · refine t_X7_count_0 (t_X7_count_1_1 ?_)
      refine t_X7_count_60 (t_X7_count_61 h7 (Nat.le_of_ble_eq_true rfl) (sp_X7_allDots (hC.cls ho) hC.scr (fun sw1 a b => ?_)))
      refine t_X7_count_64 ?_
      exact fin sw1 a b
    · refine t_X7_count_0 (t_X7_count_1_2 ?_)
      refine t_X7_count_65 (t_X7_count_66 h7 (Nat.le_of_ble_eq_true rfl) (sp_X7_allPasses (hC.cls ho) hC.scr (fun sw1 a b => ?_)))
      refine t_X7_count_69 ?_
      exact fin sw1 a b
    · refine t_X7_count_0 (t_X7_count_1_3 ?_)
      refine t_X7_count_70 (t_X7_count_71 h7 rfl (t_X7_count_74 h4 rfl (t_X7_count_77 (t_X7_count_78 hA 0 (by decide) rfl (by decide) (t_X7_count_79 ?_)))))
      exact fin sw hC.scr same.rf
    · refine t_X7_count_0 (t_X7_count_1_4 ?_)
      refine t_X7_count_80 (t_X7_count_81 h7 rfl (t_X7_count_84 h4 rfl (t_X7_count_87 (t_X7_count_88 hA 1 (by decide) rfl (by decide) (t_X7_count_89 ?_)))))
      exact fin sw hC.scr same.rf
    · refine t_X7_count_0 (t_X7_count_1_5 ?_)
      refine t_X7_count_90 (t_X7_count_91 h7 rfl (t_X7_count_94 h4 rfl (t_X7_count_97 (t_X7_count_98 hA 2 (by decide) rfl (by decide) (t_X7_count_99 ?_)))))
      exact fin sw hC.scr same.rf
    · refine t_X7_count_0 (t_X7_count_1_6 ?_)
      refine t_X7_count_100 (t_X7_count_101 h7 rfl (t_X7_count_104 h5 rfl (t_X7_count_107 ?_)))
      exact fin sw hC.scr same.rf
    · refine t_X7_count_0 (t_X7_count_1_7 ?_)
      refine t_X7_count_108 (t_X7_count_109 h7 rfl (t_X7_count_112 h3 rfl (t_X7_count_115 ?_)))
      exact fin sw hC.scr same.rf
    · refine t_X7_count_0 (t_X7_count_1_8 ?_)
      refine t_X7_count_116 (t_X7_count_117 h7 rfl (t_X7_count_120 h2 rfl (t_X7_count_123 ?_)))
      exact fin sw hC.scr same.rf
theorem sp_X7_place (y z : Int32) (hC : clW s dr i0 i1 T n x K P W kn sk ln nu fl sw) (ho : shOk s) (h0 : ¬ (∃ l w, l < s.2.2.2.2 ∧ w ≤ 2 ∧ y = nI l ∧ z = nI w) → Qs (some (.int (-1))) sw) (h1 : ∀ l w, l < s.2.2.2.2 → w ≤ 2 → y = nI l → z = nI w → Qs (some (.int (nI (plN (s.1 2) l w)))) sw) : gv_S ε (d + 1) m_X7_place [.ref 0, .int y, .int z] sw Qs := by
  have h7 := hC.h7
  have h4 := hC.h4
  have hA : sw[3 + 1]? = some (.inl (0, 3, .inl (fun i => nI (s.1 i)))) := hC.2.2.1.at 1 rfl
  have hf := ho.2.2.1
  have hl4 := ho.2.2.2.2.1
  refine gv_S.go rfl ?_
  refine t_X7_place_0 (t_X7_place_1 h7 rfl (t_X7_place_4 (t_X7_place_5 h4 (Nat.le_of_ble_eq_true rfl) (sp_X4_hasLine y hC.2.2.1 hl4 (fun l hl e => ?_) (fun h => ?_)))))
  · subst e
    refine t_X7_place_8 (fun h => absurd h (by decide)) (fun _ => ?_)
    refine t_X7_place_11 (t_X7_place_12 (fun h => ?_) (fun h => ?_))
    · refine t_X7_place_20 (t_X7_place_21 ?_)
      refine h0 (fun ⟨l, m, q1, q2, q3, q4⟩ => ?_)
      rw [q4] at h
      exact nI_pos (by omega) h
    · obtain ⟨w, hw, e⟩ := nI_of h
      subst e
      refine t_X7_place_15 (t_X7_place_16 (t_X7_place_17N (by omega) (by omega) (fun g => ?_) (fun g => ?_)))
      · have fin := h1 l w hl g rfl rfl
        unfold plN at fin
        have hfl : s.1 2 * l ≤ 72 * 4 := Nat.mul_le_mul hf.2 (by omega)
        refine t_X7_place_22 (t_X7_place_23 h7 rfl (t_X7_place_26 h4 rfl (t_X7_place_29 (t_X7_place_30 hA 2 (by decide) rfl (by decide) (t_X7_place_31 (t_X7_place_32N (?_)))))))
        generalize s.1 2 * l = fd at fin hfl ⊢
        refine t_X7_place_33 (t_X7_place_34 (t_X7_place_35N (by omega) (fun k => ?_) (fun k => ?_)))
        · have done : ∀ dv, 1 ≤ dv → dv ≤ 72 → dvF (fd % 72) 72 = dv → gv_M ε (d + 1) m_X7_place sw.length Qs 81 [some (.ref 0), some (.int (nI l)), some (.int (nI w)), some (.int (nI fd)), some (.int (nI (fd % 72))), some (.int (nI dv))] [] sw 0 0 := by
            intro dv k1 k2 e
            rw [if_neg (by omega), e] at fin
            refine t_X7_place_81 (t_X7_place_82 (t_X7_place_83N (by omega) (by omega) (fun q => ?_) (fun q => ?_)))
            · rw [if_neg q] at fin
              refine t_X7_place_94 (t_X7_place_96 (t_X7_place_98N (by decide) (by omega) (by omega) (t_X7_place_99 ?_)))
              exact fin
            · rw [if_pos q] at fin
              refine t_X7_place_86 (t_X7_place_88 (t_X7_place_90N (by omega) (by omega) (by omega) (t_X7_place_91 (t_X7_place_99 ?_))))
              exact fin
          have loop : ∀ dv, dv + 1 ≤ 72 → dvF (fd % 72) 72 = dvF (fd % 72) (dv + 1) → gv_M ε (d + 1) m_X7_place sw.length Qs 53 [some (.ref 0), some (.int (nI l)), some (.int (nI w)), some (.int (nI fd)), some (.int (nI (fd % 72))), some (.int (nI (dv + 1)))] [] sw 0 0 := by
            intro dv
            induction dv with
            | zero =>
              intro k2 e
              refine t_X7_place_53 (t_X7_place_55 (t_X7_place_56N (by omega) (by omega) (fun q => ?_) (fun q => absurd q (by omega))))
              refine done 1 (by decide) (by decide) (e.trans ?_)
              have e2 : dvF (fd % 72) (0 + 1) = if 1 < 0 + 1 ∧ ¬ (fd % 72 % (0 + 1) = 0 ∧ 72 % (0 + 1) = 0) then dvF (fd % 72) 0 else 0 + 1 := rfl
              rw [e2, if_neg (fun z => absurd z.1 (by decide))]
            | succ dv ih =>
              intro k2 e
              have e2 : dvF (fd % 72) (dv + 1 + 1) = if 1 < dv + 1 + 1 ∧ ¬ (fd % 72 % (dv + 1 + 1) = 0 ∧ 72 % (dv + 1 + 1) = 0) then dvF (fd % 72) (dv + 1) else dv + 1 + 1 := rfl
              have h72 : 72 % (dv + 1 + 1) < dv + 1 + 1 := Nat.mod_lt _ (by omega)
              have h73 : fd % 72 % (dv + 1 + 1) < dv + 1 + 1 := Nat.mod_lt _ (by omega)
              have next : ¬ (fd % 72 % (dv + 1 + 1) = 0 ∧ 72 % (dv + 1 + 1) = 0) → gv_M ε (d + 1) m_X7_place sw.length Qs 75 [some (.ref 0), some (.int (nI l)), some (.int (nI w)), some (.int (nI fd)), some (.int (nI (fd % 72))), some (.int (nI (dv + 1 + 1)))] [] sw 0 0 := by
                intro z
                refine t_X7_place_75 (t_X7_place_78 (?_))
                rw [pk_m1]
                rw [if_pos ⟨by omega, z⟩] at e2
                exact ih (by omega) (e.trans e2)
              refine t_X7_place_53 (t_X7_place_55 (t_X7_place_56N (by omega) (by omega) (fun q => absurd q (by omega)) (fun q => ?_)))
              refine t_X7_place_59 (t_X7_place_61 (t_X7_place_63N (by omega) (by omega) (by omega) (t_X7_place_64N (by omega) (fun z => ?_) (fun z => ?_))))
              · exact next (fun y => by omega)
              · refine t_X7_place_67 (t_X7_place_69 (t_X7_place_71N (by decide) (by omega) (by omega) (t_X7_place_72N (by omega) (fun y => ?_) (fun y => ?_))))
                · refine done (dv + 1 + 1) (by omega) k2 (e.trans ?_)
                  rw [e2, if_neg (fun t => t.2 ⟨z, y⟩)]
                · exact next (fun t => by omega)
          refine t_X7_place_43 (t_X7_place_44 (t_X7_place_46N (by omega) (by decide) (by decide) (t_X7_place_47 (t_X7_place_49 (t_X7_place_51 (?_))))))
          exact loop 71 (by decide) rfl
        · rw [if_pos k] at fin
          refine t_X7_place_38 (t_X7_place_39 (t_X7_place_41N (by omega) (by decide) (by decide) (t_X7_place_42 ?_)))
          exact fin
      · refine t_X7_place_20 (t_X7_place_21 ?_)
        refine h0 (fun ⟨l', m', q1, q2, q3, q4⟩ => ?_)
        have := nI_inj (by omega) (by omega) q4
        omega
  · refine t_X7_place_8 (fun _ => ?_) (fun h => absurd rfl h)
    refine t_X7_place_20 (t_X7_place_21 ?_)
    exact h0 (fun ⟨l, c, q, _, q2, _⟩ => h l q q2)
end S7
