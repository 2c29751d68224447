/-! the model: deeds, images, counts, places -/
section S8
variable {ε : gv_E} {d : Nat} {Qs : Option Value → List va_E → Prop} {r U fk Kp T ln nu : Nat → Nat} {kn ua n sk : Nat} {sw : List va_E}
theorem sp_X8_draws (y z u : Int32) (hM : moW r U fk Kp T ln nu kn ua n sk sw) (hr : roOk r) (hua : ua < 10) (hk : kn ≤ 10) (h0 : ¬ (∃ a c w, a < 6 ∧ c < 3 ∧ w ≤ 255 ∧ y = nI a ∧ z = nI c ∧ u = nI w) → Qs (some (.int (-1))) sw) (h1 : ∀ a c w, a < 6 → c < 3 → w ≤ 255 → y = nI a → z = nI c → u = nI w → r (3 + (3 * a + c)) = w → Qs (some (.int (-2))) sw) (h2 : ∀ a c w, a < 6 → c < 3 → w ≤ 255 → y = nI a → z = nI c → u = nI w → r (3 + (3 * a + c)) ≠ w → ∀ U' sw', remP U r ua U' → moW (up r (3 + (3 * a + c)) w) (U') fk Kp T ln nu (min (kn + 1) 10) ((ua + 1) % 10) n sk sw' → same 44 11 sw sw' → Qs (some (.int (nI (r (3 + (3 * a + c)))))) sw') : gv_S ε (d + 2) m_X8_draws [.ref 44, .int y, .int z, .int u] sw Qs := by
  obtain ⟨afs, a8, al, a0, a1, a2, a3, a4, a5, a6, a7, a17, a18, a19, aN, aU, aK, aP, aT, aA, aB⟩ := hM.view
  refine gv_S.go rfl ?_
  refine t_X8_draws_0 (t_X8_draws_1 (t_X8_draws_2 (t_X8_draws_3 (Nat.le_of_ble_eq_true rfl) (sp_X8_inN y 5 (by decide) (fun x hx e => ?_) (fun h => ?_)))))
  · refine t_X8_draws_6 (fun h => absurd h (by decide)) (fun _ => ?_)
    refine t_X8_draws_9 (t_X8_draws_10 (t_X8_draws_11 (t_X8_draws_12 (Nat.le_of_ble_eq_true rfl) (sp_X8_inN z 2 (by decide) (fun c hc e2 => ?_) (fun h => ?_)))))
    · refine t_X8_draws_15 (fun h => absurd h (by decide)) (fun _ => ?_)
      refine t_X8_draws_18 (t_X8_draws_19 (t_X8_draws_20 (t_X8_draws_23 (Nat.le_of_ble_eq_true rfl) (sp_X8_inN u 255 (by decide) (fun w hw e3 => ?_) (fun h => ?_)))))
      · subst e
        subst e2
        subst e3
        have q4 := hr.2.2.2.1 (3 * x + c) (by omega)
        refine t_X8_draws_26 (fun h => absurd h (by decide)) (fun _ => ?_)
        refine t_X8_draws_29 (t_X8_draws_30 (t_X8_draws_31 (t_X8_draws_32 (t_X8_draws_33N (t_X8_draws_34N (t_X8_draws_35 (t_X8_draws_36N (?_))))))))
        rw [Nat.add_assoc 3 (3 * x) c]
        refine t_X8_draws_37 (t_X8_draws_38 a8 (Nat.le_of_ble_eq_true rfl) (sp_X8_lays (3 + (3 * x + c)) w hM hua hk (by omega) (by omega) (by omega) (fun g => ?_) (fun g U' sw1 hR hM1 m1 => ?_)))
        · refine t_X8_draws_41 (t_X8_draws_45 ?_)
          exact h1 x c w (by omega) (by omega) hw rfl rfl rfl g
        · refine t_X8_draws_41 (t_X8_draws_45 ?_)
          exact h2 x c w (by omega) (by omega) hw rfl rfl rfl g U' sw1 hR hM1 m1
      · refine t_X8_draws_26 (fun _ => ?_) (fun h => absurd rfl h)
        refine t_X8_draws_44 (t_X8_draws_45 ?_)
        exact h0 (fun ⟨_, _, w, _, _, q, _, _, q2⟩ => h w q q2)
    · refine t_X8_draws_15 (fun _ => ?_) (fun h => absurd rfl h)
      refine t_X8_draws_44 (t_X8_draws_45 ?_)
      exact h0 (fun ⟨_, c, _, _, q, _, _, q2, _⟩ => h c (by omega) q2)
  · refine t_X8_draws_6 (fun _ => ?_) (fun h => absurd rfl h)
    refine t_X8_draws_44 (t_X8_draws_45 ?_)
    exact h0 (fun ⟨l, _, _, q, _, _, q2, _, _⟩ => h l (by omega) q2)
theorem sp_X8_least (p : Nat) (hp : p < 3) (hq : Qs (some (.int (nI (if p = 2 then 1 else 0)))) sw) : gv_S ε d m_X8_least [.int (nI p)] sw Qs := by
  refine gv_S.go rfl ?_
  refine t_X8_least_0 (t_X8_least_1 (t_X8_least_2N (by omega) (by omega) (fun h => ?_) (fun h => ?_)))
  · refine t_X8_least_9 (t_X8_least_10 ?_)
    rw [if_neg h] at hq
    exact hq
  · refine t_X8_least_5 (t_X8_least_6 (t_X8_least_10 ?_))
    rw [if_pos h] at hq
    exact hq
theorem sp_X8_most (p : Nat) (hp : p < 3) (hq : Qs (some (.int (nI (if p = 0 then 4 else if p = 1 then 9 else 72)))) sw) : gv_S ε d m_X8_most [.int (nI p)] sw Qs := by
  refine gv_S.go rfl ?_
  refine t_X8_most_0 (t_X8_most_1N (by omega) (fun h => ?_) (fun h => ?_))
  · rw [if_neg (by omega)] at hq
    refine t_X8_most_8 (t_X8_most_9 (t_X8_most_10N (by omega) (by omega) (fun g => ?_) (fun g => ?_)))
    · refine t_X8_most_18 (t_X8_most_20 ?_)
      rw [if_neg g] at hq
      exact hq
    · refine t_X8_most_13 (t_X8_most_15 (t_X8_most_20 ?_))
      rw [if_pos g] at hq
      exact hq
  · refine t_X8_most_4 (t_X8_most_5 (t_X8_most_20 ?_))
    rw [if_pos h] at hq
    exact hq
theorem sp_X8_sets (y z : Int32) (hM : moW r U fk Kp T ln nu kn ua n sk sw) (hr : roOk r) (hua : ua < 10) (hk : kn ≤ 10) (h0 : ¬ (∃ p w, rgOk p w ∧ y = nI p ∧ z = nI w) → Qs (some (.int (-1))) sw) (h1 : ∀ p w, rgOk p w → y = nI p → z = nI w → r p = w → Qs (some (.int (-2))) sw) (h2 : ∀ p w, rgOk p w → y = nI p → z = nI w → r p ≠ w → ∀ U' sw', remP U r ua U' → moW (up r p w) (U') fk Kp T ln nu (min (kn + 1) 10) ((ua + 1) % 10) n sk sw' → same 44 11 sw sw' → Qs (some (.int (nI (r p)))) sw') : gv_S ε (d + 2) m_X8_sets [.ref 44, .int y, .int z] sw Qs := by
  obtain ⟨afs, a8, al, a0, a1, a2, a3, a4, a5, a6, a7, a17, a18, a19, aN, aU, aK, aP, aT, aA, aB⟩ := hM.view
  refine gv_S.go rfl ?_
  refine t_X8_sets_0 (t_X8_sets_1 (t_X8_sets_2 (t_X8_sets_3 (Nat.le_of_ble_eq_true rfl) (sp_X8_inN y 2 (by decide) (fun p hp e => ?_) (fun h => ?_)))))
  · subst e
    have hrp : r p < 100 := by
      obtain ⟨o1, o2, o3, _⟩ := hr
      have : p = 0 ∨ p = 1 ∨ p = 2 := by omega
      rcases this with e | e | e <;> subst e <;> omega
    refine t_X8_sets_6 (fun h => absurd h (by decide)) (fun _ => ?_)
    refine t_X8_sets_9 (t_X8_sets_10 (t_X8_sets_11 (Nat.le_of_ble_eq_true rfl) (sp_X8_least p (by omega) ?_)))
    refine t_X8_sets_14 (t_X8_sets_15 (Nat.le_of_ble_eq_true rfl) (sp_X8_most p (by omega) ?_))
    have hlo : (if p = 2 then 1 else 0) < 100 := by split <;> omega
    have hhi : (if p = 0 then 4 else if p = 1 then 9 else 72) < 100 := by
      split
      · omega
      · split <;> omega
    have hiff : ∀ w, rgOk p w ↔ (if p = 2 then 1 else 0) ≤ w ∧ w ≤ (if p = 0 then 4 else if p = 1 then 9 else 72) := by
      intro w
      unfold rgOk
      have : p = 0 ∨ p = 1 ∨ p = 2 := by omega
      rcases this with e | e | e <;> subst e <;> simp <;> omega
    generalize (if p = 2 then 1 else 0) = lo at hlo hiff ⊢
    generalize (if p = 0 then 4 else if p = 1 then 9 else 72) = hi at hhi hiff ⊢
    refine t_X8_sets_18 (Nat.le_of_ble_eq_true rfl) (sp_X8_in z _ _ (fun g1 g2 => ?_) (fun g => ?_))
    · obtain ⟨w, w1, w2, w3⟩ := in_rng z (a := lo) (b := hi) (by omega) (by omega) (fun q => by
        rw [Int32.lt_iff_toInt_lt] at q
        rw [Int32.le_iff_toInt_le] at g1
        omega) (fun q => by
        rw [Int32.lt_iff_toInt_lt] at q
        rw [Int32.le_iff_toInt_le] at g2
        omega)
      subst w3
      have hrg := (hiff w).mpr ⟨w1, w2⟩
      refine t_X8_sets_21 (fun h => absurd h (by decide)) (fun _ => ?_)
      refine t_X8_sets_24 (t_X8_sets_25 (t_X8_sets_26 (t_X8_sets_27 a8 (Nat.le_of_ble_eq_true rfl) (sp_X8_lays p w hM hua hk (by omega) (by omega) (by omega) (fun g => ?_) (fun g U' sw1 hR hM1 m1 => ?_)))))
      · refine t_X8_sets_30 (t_X8_sets_34 ?_)
        exact h1 p w hrg rfl rfl g
      · refine t_X8_sets_30 (t_X8_sets_34 ?_)
        exact h2 p w hrg rfl rfl g U' sw1 hR hM1 m1
    · refine t_X8_sets_21 (fun _ => ?_) (fun h => absurd rfl h)
      refine t_X8_sets_33 (t_X8_sets_34 ?_)
      refine h0 (fun ⟨p', w, q1, q2, q3⟩ => g ?_)
      have q4 : p' < 3 := by rcases q1 with ⟨a, _⟩ | ⟨a, _⟩ | ⟨a, _⟩ <;> omega
      have e := nI_inj (by omega) (by omega) q2
      subst e
      have := (hiff w).mp q1
      rw [q3]
      exact ⟨nI_le this.1 (by omega), nI_le this.2 (by omega)⟩
  · refine t_X8_sets_6 (fun _ => ?_) (fun h => absurd rfl h)
    refine t_X8_sets_33 (t_X8_sets_34 ?_)
    refine h0 (fun ⟨p, w, q1, q2, q3⟩ => h p ?_ q2)
    rcases q1 with ⟨a, _⟩ | ⟨a, _⟩ | ⟨a, _⟩ <;> omega
def tyR (r : Nat → Nat) (l g : Nat) : Nat → Nat := up (up (up r 21 (if l = r 21 then l + 1 else r 21)) (26 + 8 * l + r (22 + l)) g) (22 + l) (r (22 + l) + 1)
theorem sp_X8_types (y z : Int32) (hM : moW r U fk Kp T ln nu kn ua n sk sw) (hr : roOk r) (hua : ua < 10) (hk : kn ≤ 10) (h0 : ¬ (∃ l g, l ≤ r 21 ∧ g ≤ 6 ∧ y = nI l ∧ z = nI g) → Qs (some (.int (-1))) sw) (h1 : ∀ l g, l ≤ r 21 → g ≤ 6 → y = nI l → z = nI g → (l = 4 ∨ (l < 4 ∧ r (22 + l) = 8)) → Qs (some (.int (-3))) sw) (h2 : ∀ l g, l ≤ r 21 → g ≤ 6 → y = nI l → z = nI g → l < 4 → r (22 + l) < 8 → ∀ U' sw', remP U r ua U' → moW (tyR r l g) (U') fk Kp T ln nu (min (kn + 1) 10) ((ua + 1) % 10) n sk sw' → same 44 11 sw sw' → Qs (some (.int (nI (r (22 + l) + 1)))) sw') : gv_S ε (d + 2) m_X8_types [.ref 44, .int y, .int z] sw Qs := by
  obtain ⟨afs, a8, al, a0, a1, a2, a3, a4, a5, a6, a7, a17, a18, a19, aN, aU, aK, aP, aT, aA, aB⟩ := hM.view
  have hl4 := hr.2.2.2.2.1
  refine gv_S.go rfl ?_
  refine t_X8_types_0 (t_X8_types_1 (t_X8_types_2 (t_X8_types_3 a8 a0 (t_X8_types_6 (t_X8_types_8 aN 21 (by decide) rfl (by decide) (t_X8_types_9 (Nat.le_of_ble_eq_true rfl) (sp_X8_inN y (r 21) (by omega) (fun l hl e => ?_) (fun h => ?_))))))))
  · refine t_X8_types_12 (fun h => absurd h (by decide)) (fun _ => ?_)
    refine t_X8_types_15 (t_X8_types_16 (t_X8_types_17 (t_X8_types_19 (Nat.le_of_ble_eq_true rfl) (sp_X8_inN z 6 (by decide) (fun g hg e2 => ?_) (fun h => ?_)))))
    · subst e
      subst e2
      refine t_X8_types_22 (fun _ => ?_) (fun h => absurd h (by decide))
      refine t_X8_types_27 (t_X8_types_28 (t_X8_types_29N (by omega) (by omega) (fun k => ?_) (fun k => ?_)))
      · refine t_X8_types_46 (t_X8_types_48 ?_)
        exact h1 l g hl hg rfl rfl (Or.inl k)
      · have hl3 : l < 4 := by omega
        have hlen := hr.2.2.2.2.2.1 l hl3
        refine t_X8_types_32 (t_X8_types_33 a8 a0 (t_X8_types_36 (t_X8_types_38 (t_X8_types_39N (t_X8_types_40 aN (22 + l) (by omega) rfl (by decide) (t_X8_types_41 (t_X8_types_43N (by omega) (by omega) (fun k8 => ?_) (fun k8 => ?_))))))))
        · refine t_X8_types_49 (t_X8_types_50 a8 (Nat.le_of_ble_eq_true rfl) (sp_X8_remembers hM hua hk (fun U' sw1 hR hM1 m1 => ?_)))
          obtain ⟨bfs, b8, bl, b0, b1, b2, b3, b4, b5, b6, b7, b17, b18, b19, bN, bU, bK, bP, bT, bA, bB⟩ := hM1.view
          have go : ∀ q, q = (if l = r 21 then l + 1 else r 21) → gv_M ε (d + 2) m_X8_types sw.length Qs 83 [some (.ref 44), some (.int (nI l)), some (.int (nI g))] [.int (nI q), .int (nI 21), .ref 45] sw1 0 0 := by
            intro q hq
            refine t_X8_types_83 bN 21 (by decide) rfl (by decide) (?_)
            rw [nI_set]
            have hM2 := hM1.sR (up r 21 q)
            have m2 : same 44 11 sw1 _ := same.set 45 (.inl (0, 58, .inl (fun i => nI (up r 21 q i)))) rfl
            show gv_M ε (d + 2) m_X8_types sw.length Qs 84 _ _ (List.set sw1 45 (.inl (0, 58, .inl (fun i => nI (up r 21 q i))))) 0 0
            generalize List.set sw1 _ _ = sw2 at hM2 m2 ⊢
            obtain ⟨cfs, c8, cl, c0, c1, c2, c3, c4, c5, c6, c7, c17, c18, c19, cN, cU, cK, cP, cT, cA, cB⟩ := hM2.view
            have e1 : up r 21 q (22 + l) = r (22 + l) := up_ne (by omega)
            refine t_X8_types_84 (t_X8_types_85 c8 c0 (t_X8_types_88 (t_X8_types_90 (t_X8_types_92 (t_X8_types_93N (t_X8_types_94N (t_X8_types_95 (t_X8_types_96 c8 c0 (t_X8_types_99 (t_X8_types_101 (t_X8_types_102N (t_X8_types_103 cN (22 + l) (by omega) rfl (by decide) (?_)))))))))))))
            rw [e1]
            refine t_X8_types_104N (t_X8_types_105 (t_X8_types_106 cN (26 + 8 * l + r (22 + l)) (by omega) rfl (by decide) (?_)))
            rw [nI_set]
            have hM3 := hM2.sR (up (up r 21 q) (26 + 8 * l + r (22 + l)) g)
            have m3 : same 44 11 sw2 _ := same.set 45 (.inl (0, 58, .inl (fun i => nI (up (up r 21 q) (26 + 8 * l + r (22 + l)) g i)))) rfl
            show gv_M ε (d + 2) m_X8_types sw.length Qs 107 _ _ (List.set sw2 45 (.inl (0, 58, .inl (fun i => nI (up (up r 21 q) (26 + 8 * l + r (22 + l)) g i))))) 0 0
            generalize List.set sw2 _ _ = sw3 at hM3 m3 ⊢
            obtain ⟨xfs, x8, xl, x0, x1, x2, x3, x4, x5, x6, x7, x17, x18, x19, xN, xU, xK, xP, xT, xA, xB⟩ := hM3.view
            have e2 : up (up r 21 q) (26 + 8 * l + r (22 + l)) g (22 + l) = r (22 + l) := by rw [up_ne (by omega), e1]
            refine t_X8_types_107 (t_X8_types_108 x8 x0 (t_X8_types_111 (t_X8_types_113 (t_X8_types_114N (t_X8_types_115 rfl rfl (t_X8_types_116 xN (22 + l) (by omega) rfl (by decide) (?_)))))))
            rw [e2]
            refine t_X8_types_117 (t_X8_types_118N (t_X8_types_119 xN (22 + l) (by omega) rfl (by decide) (?_)))
            rw [nI_set]
            have hM4 := hM3.sR (tyR r l g)
            have m4 : same 44 11 sw3 _ := same.set 45 (.inl (0, 58, .inl (fun i => nI (tyR r l g i)))) rfl
            subst hq
            show gv_M ε (d + 2) m_X8_types sw.length Qs 120 _ _ (List.set sw3 45 (.inl (0, 58, .inl (fun i => nI (tyR r l g i))))) 0 0
            generalize List.set sw3 _ _ = sw4 at hM4 m4 ⊢
            obtain ⟨zfs, z8, zl, z0, z1, z2, z3, z4, z5, z6, z7, z17, z18, z19, zN, zU, zK, zP, zT, zA, zB⟩ := hM4.view
            refine t_X8_types_120 (t_X8_types_121 z8 z0 (t_X8_types_124 (t_X8_types_126 (t_X8_types_127N (t_X8_types_128 zN (22 + l) (by omega) rfl (by decide) (t_X8_types_129 ?_))))))
            have e3 : tyR r l g (22 + l) = r (22 + l) + 1 := up_at _ _ _
            rw [e3]
            exact h2 l g hl hg rfl rfl hl3 (by omega) U' sw4 hR hM4 (((m1.tr m2).tr m3).tr m4)
          refine t_X8_types_53 (t_X8_types_54 b8 b0 (t_X8_types_57 (t_X8_types_59 (t_X8_types_60 (t_X8_types_61 b8 b0 (t_X8_types_64 (t_X8_types_66 bN 21 (by decide) rfl (by decide) (t_X8_types_67N (by omega) (by omega) (fun q => ?_) (fun q => ?_)))))))))
          · refine t_X8_types_76 (t_X8_types_77 b8 b0 (t_X8_types_80 (t_X8_types_82 bN 21 (by decide) rfl (by decide) (?_))))
            exact go (r 21) (by rw [if_neg q])
          · refine t_X8_types_70 (t_X8_types_71 (t_X8_types_72N (t_X8_types_73 (?_))))
            exact go (l + 1) (by rw [if_pos q])
        · refine t_X8_types_46 (t_X8_types_48 ?_)
          exact h1 l g hl hg rfl rfl (Or.inr ⟨hl3, k8⟩)
    · refine t_X8_types_22 (fun h => absurd rfl h) (fun _ => ?_)
      refine t_X8_types_25 (t_X8_types_26 ?_)
      exact h0 (fun ⟨l, c, _, q, _, q2⟩ => h c q q2)
  · refine t_X8_types_12 (fun _ => ?_) (fun h => absurd rfl h)
    refine t_X8_types_25 (t_X8_types_26 ?_)
    exact h0 (fun ⟨l, c, q, _, q2, _⟩ => h l q q2)
def skR (r : Nat → Nat) (l : Nat) : Nat → Nat := up (up r (22 + l) (r (22 + l) - 1)) (26 + 8 * l + (r (22 + l) - 1)) 0
theorem sp_X8_strikes (y : Int32) (hM : moW r U fk Kp T ln nu kn ua n sk sw) (hr : roOk r) (hua : ua < 10) (hk : kn ≤ 10) (h0 : (∀ l, l < r 21 → y ≠ nI l) → Qs (some (.int (-1))) sw) (h1 : ∀ l, l < r 21 → y = nI l → r (22 + l) = 0 → Qs (some (.int (-2))) sw) (h2 : ∀ l, l < r 21 → y = nI l → 0 < r (22 + l) → ∀ U' sw', remP U r ua U' → moW (skR r l) (U') fk Kp T ln nu (min (kn + 1) 10) ((ua + 1) % 10) n sk sw' → same 44 11 sw sw' → Qs (some (.int (nI (r (26 + 8 * l + (r (22 + l) - 1)))))) sw') : gv_S ε (d + 2) m_X8_strikes [.ref 44, .int y] sw Qs := by
  obtain ⟨afs, a8, al, a0, a1, a2, a3, a4, a5, a6, a7, a17, a18, a19, aN, aU, aK, aP, aT, aA, aB⟩ := hM.view
  have hl4 := hr.2.2.2.2.1
  refine gv_S.go rfl ?_
  refine t_X8_strikes_0 (t_X8_strikes_1 (t_X8_strikes_2 a8 (Nat.le_of_ble_eq_true rfl) (sp_X8_isLine y hM.qm hl4 (fun l hl e => ?_) (fun h => ?_))))
  · subst e
    have hlen := hr.2.2.2.2.2.1 l (by omega)
    refine t_X8_strikes_5 (fun _ => ?_) (fun h => absurd h (by decide))
    refine t_X8_strikes_10 (t_X8_strikes_11 a8 a0 (t_X8_strikes_14 (t_X8_strikes_16 (t_X8_strikes_17N (t_X8_strikes_18 aN (22 + l) (by omega) rfl (by decide) (t_X8_strikes_19N (by omega) (fun g => ?_) (fun g => ?_)))))))
    · refine t_X8_strikes_25 (t_X8_strikes_26 a8 (Nat.le_of_ble_eq_true rfl) (sp_X8_remembers hM hua hk (fun U' sw1 hR hM1 m1 => ?_)))
      obtain ⟨bfs, b8, bl, b0, b1, b2, b3, b4, b5, b6, b7, b17, b18, b19, bN, bU, bK, bP, bT, bA, bB⟩ := hM1.view
      refine t_X8_strikes_29 (t_X8_strikes_30 b8 b0 (t_X8_strikes_33 (t_X8_strikes_35 (t_X8_strikes_36N (t_X8_strikes_37 rfl rfl (t_X8_strikes_38 bN (22 + l) (by omega) rfl (by decide) (t_X8_strikes_39 (t_X8_strikes_40N (by omega) (t_X8_strikes_41 bN (22 + l) (by omega) rfl (by decide) (?_))))))))))
      rw [nI_set]
      have hM2 := hM1.sR (up r (22 + l) (r (22 + l) - 1))
      have m2 : same 44 11 sw1 _ := same.set 45 (.inl (0, 58, .inl (fun i => nI (up r (22 + l) (r (22 + l) - 1) i)))) rfl
      show gv_M ε (d + 2) m_X8_strikes sw.length Qs 42 _ _ (List.set sw1 45 (.inl (0, 58, .inl (fun i => nI (up r (22 + l) (r (22 + l) - 1) i))))) 0 0
      generalize List.set sw1 _ _ = sw2 at hM2 m2 ⊢
      obtain ⟨cfs, c8, cl, c0, c1, c2, c3, c4, c5, c6, c7, c17, c18, c19, cN, cU, cK, cP, cT, cA, cB⟩ := hM2.view
      refine t_X8_strikes_42 (t_X8_strikes_44 (t_X8_strikes_46 (t_X8_strikes_47N (t_X8_strikes_48N (t_X8_strikes_49 (t_X8_strikes_50 c8 c0 (t_X8_strikes_53 (t_X8_strikes_55 (t_X8_strikes_56N (t_X8_strikes_57 cN (22 + l) (by omega) rfl (by decide) (?_)))))))))))
      rw [up_at]
      refine t_X8_strikes_58N (t_X8_strikes_59 (t_X8_strikes_60 (t_X8_strikes_61 c8 c0 (t_X8_strikes_64 (t_X8_strikes_65 cN (26 + 8 * l + (r (22 + l) - 1)) (by omega) rfl (by decide) (?_))))))
      rw [up_ne (by omega)]
      refine t_X8_strikes_66 (t_X8_strikes_67 (t_X8_strikes_68 c8 c0 (t_X8_strikes_71 (t_X8_strikes_72 (t_X8_strikes_73 cN (26 + 8 * l + (r (22 + l) - 1)) (by omega) rfl (by decide) (?_))))))
      rw [nI_set]
      refine t_X8_strikes_74 (t_X8_strikes_75 ?_)
      exact h2 l hl rfl g U' _ hR (hM2.sR (skR r l)) ((m1.tr m2).tr (same.set 45 _ rfl))
    · refine t_X8_strikes_22 (t_X8_strikes_24 ?_)
      exact h1 l hl rfl g
  · refine t_X8_strikes_5 (fun h => absurd rfl h) (fun _ => ?_)
    refine t_X8_strikes_8 (t_X8_strikes_9 ?_)
    exact h0 h
theorem sp_X8_undo (hM : moW r U fk Kp T ln nu kn ua n sk sw) (hua : ua < 10) (hk : kn ≤ 10) (h0 : kn = 0 → Qs (some (.int (-2))) sw) (h1 : 0 < kn → ∀ r' sw', (∀ k, k < 58 → r' k = U (58 * ((ua + 9) % 10) + k)) → moW (r') U fk Kp T ln nu (kn - 1) ((ua + 9) % 10) n sk sw' → same 44 11 sw sw' → Qs (some (.int (nI (kn - 1)))) sw') : gv_S ε d m_X8_undo [.ref 44] sw Qs := by
  have loop : ∀ (m k : Nat) (r1 : Nat → Nat) (sw1 : List va_E), 0 < kn → k + m = 58 → (∀ j, j < k → r1 j = U (58 * ((ua + 9) % 10) + j)) → moW (r1) U fk Kp T ln nu (kn - 1) ((ua + 9) % 10) n sk sw1 → same 44 11 sw sw1 → gv_M ε d m_X8_undo sw.length Qs 38 [some (.ref 44), some (.int (nI k))] [] sw1 0 0 := by
    intro m
    induction m with
    | zero =>
      intro k r1 sw1 h hkm g1 hM1 m1
      obtain ⟨afs, a8, al, a0, a1, a2, a3, a4, a5, a6, a7, a17, a18, a19, aN, aU, aK, aP, aT, aA, aB⟩ := hM1.view
      refine t_X8_undo_38 (t_X8_undo_39 (t_X8_undo_41N (by omega) (by omega) (fun h' => ?_) (fun h => absurd h (by omega))))
      refine t_X8_undo_70 (t_X8_undo_71 a8 a1 (t_X8_undo_74 ?_))
      exact h1 h r1 sw1 (fun j hj => g1 j (by omega)) hM1 m1
    | succ m ih =>
      intro k r1 sw1 h hkm g1 hM1 m1
      obtain ⟨afs, a8, al, a0, a1, a2, a3, a4, a5, a6, a7, a17, a18, a19, aN, aU, aK, aP, aT, aA, aB⟩ := hM1.view
      refine t_X8_undo_38 (t_X8_undo_39 (t_X8_undo_41N (by omega) (by omega) (fun h => absurd h (by omega)) (fun h' => ?_)))
      refine t_X8_undo_44 (t_X8_undo_45 a8 a0 (t_X8_undo_48 (t_X8_undo_49 (t_X8_undo_50 a8 a3 (t_X8_undo_53 (t_X8_undo_55 (t_X8_undo_56 a8 a2 (t_X8_undo_59N (t_X8_undo_60 (t_X8_undo_61N (t_X8_undo_62 aU (58 * ((ua + 9) % 10) + k) (by omega) rfl (by decide) (t_X8_undo_63 aN k (by omega) rfl (by decide) (t_X8_undo_64N (t_X8_undo_67 (?_)))))))))))))))
      rw [nI_set]
      refine ih (k + 1) (up r1 k (U (58 * ((ua + 9) % 10) + k))) _ (by omega) (by omega) (fun j hj => ?_) (hM1.sR _) (m1.tr (same.set 45 _ rfl))
      by_cases e : j = k
      · subst e
        exact up_at _ _ _
      · rw [up_ne e]
        exact g1 j (by omega)
  obtain ⟨afs, a8, al, a0, a1, a2, a3, a4, a5, a6, a7, a17, a18, a19, aN, aU, aK, aP, aT, aA, aB⟩ := hM.view
  refine gv_S.go rfl ?_
  refine t_X8_undo_0 (t_X8_undo_1 a8 a1 (t_X8_undo_4N (by omega) (fun h => ?_) (fun h => ?_)))
  · refine t_X8_undo_10 (t_X8_undo_11 (t_X8_undo_12 a8 a2 (t_X8_undo_15 (t_X8_undo_17N (t_X8_undo_18 (t_X8_undo_19N (by omega) (t_X8_undo_20 (t_X8_undo_22N (by omega) (by decide) (by decide) (t_X8_undo_23 a8 al (?_))))))))))
    rw [show ua + 10 - 1 = ua + 9 by omega]
    have hM2 := hM.f2 a8 ((ua + 9) % 10)
    have m2 : same 44 11 sw _ := same.set 44 (.inr (8, afs.set 2 (.int (nI ((ua + 9) % 10))))) rfl
    generalize List.set sw _ _ = sw2 at hM2 m2 ⊢
    obtain ⟨bfs, b8, bl, b0, b1, b2, b3, b4, b5, b6, b7, b17, b18, b19, bN, bU, bK, bP, bT, bA, bB⟩ := hM2.view
    refine t_X8_undo_26 (t_X8_undo_27 rfl (t_X8_undo_28 b8 b1 (t_X8_undo_31 (t_X8_undo_32N (by omega) (t_X8_undo_33 b8 bl (t_X8_undo_36 (t_X8_undo_37 (?_))))))))
    exact loop 58 0 r _ h (by decide) (fun j hj => absurd hj (by omega)) (hM2.f1 b8 (kn - 1)) (m2.tr (same.set 44 _ rfl))
  · refine t_X8_undo_7 (t_X8_undo_9 ?_)
    exact h0 h
theorem sp_X8_keep (y : Int32) (hM : moW r U fk Kp T ln nu kn ua n sk sw) (hr : roOk r) (h0 : (∀ j, j < 2 → y ≠ nI j) → Qs (some (.int (-1))) sw) (h1 : ∀ j, j < 2 → y = nI j → ∀ Kp' sw', remP Kp r j Kp' → moW r U (up fk j 1) (Kp') T ln nu kn ua n sk sw' → same 44 11 sw sw' → Qs (some (.int (nI (r 21)))) sw') : gv_S ε (d + 1) m_X8_keep [.ref 44, .int y] sw Qs := by
  obtain ⟨afs, a8, al, a0, a1, a2, a3, a4, a5, a6, a7, a17, a18, a19, aN, aU, aK, aP, aT, aA, aB⟩ := hM.view
  refine gv_S.go rfl ?_
  refine t_X8_keep_0 (t_X8_keep_1 (t_X8_keep_2 (t_X8_keep_3 (Nat.le_of_ble_eq_true rfl) (sp_X8_inN y 1 (by decide) (fun j hj e => ?_) (fun h => ?_)))))
  · subst e
    have loop : ∀ (m k : Nat) (P1 : Nat → Nat) (sw1 : List va_E), k + m = 58 → (∀ q, q < k → P1 (58 * j + q) = r q) → (∀ i, (i < 58 * j ∨ 58 * j + 58 ≤ i) → P1 i = Kp i) → moW r U (up fk j 1) (P1) T ln nu kn ua n sk sw1 → same 44 11 sw sw1 → gv_M ε (d + 1) m_X8_keep sw.length Qs 20 [some (.ref 44), some (.int (nI j)), some (.int (nI k))] [] sw1 0 0 := by
      intro m
      induction m with
      | zero =>
        intro k P1 sw1 hkm g1 g2 hM1 m1
        obtain ⟨afs, a8, al, a0, a1, a2, a3, a4, a5, a6, a7, a17, a18, a19, aN, aU, aK, aP, aT, aA, aB⟩ := hM1.view
        refine t_X8_keep_20 (t_X8_keep_21 (t_X8_keep_23N (by omega) (by omega) (fun h => ?_) (fun h => absurd h (by omega))))
        refine t_X8_keep_49 (t_X8_keep_50 a8 a0 (t_X8_keep_53 (t_X8_keep_55 aN 21 (by decide) rfl (by decide) (t_X8_keep_56 ?_))))
        exact h1 j (by omega) rfl P1 sw1 ⟨fun q hq => g1 q (by omega), g2⟩ hM1 m1
      | succ m ih =>
        intro k P1 sw1 hkm g1 g2 hM1 m1
        obtain ⟨afs, a8, al, a0, a1, a2, a3, a4, a5, a6, a7, a17, a18, a19, aN, aU, aK, aP, aT, aA, aB⟩ := hM1.view
        refine t_X8_keep_20 (t_X8_keep_21 (t_X8_keep_23N (by omega) (by omega) (fun h => absurd h (by omega)) (fun h => ?_)))
        refine t_X8_keep_26 (t_X8_keep_27 a8 a5 (t_X8_keep_30 (t_X8_keep_32 (t_X8_keep_33N (t_X8_keep_34 (t_X8_keep_35N (t_X8_keep_36 (t_X8_keep_37 a8 a0 (t_X8_keep_40 (t_X8_keep_41 aN k h rfl (by decide) (t_X8_keep_42 aP (58 * j + k) (by omega) rfl (by decide) (t_X8_keep_43N (t_X8_keep_46 (?_))))))))))))))
        rw [nI_set]
        refine ih (k + 1) (up P1 (58 * j + k) (r k)) _ (by omega) (fun q hq => ?_) (fun i hi => ?_) (hM1.sP _) (m1.tr (same.set 48 _ rfl))
        · by_cases e : q = k
          · subst e
            exact up_at _ _ _
          · rw [up_ne (by omega)]
            exact g1 q (by omega)
        · rw [up_ne (by omega)]
          exact g2 i hi
    refine t_X8_keep_6 (fun _ => ?_) (fun h => absurd h (by decide))
    refine t_X8_keep_11 (t_X8_keep_12 a8 a4 (t_X8_keep_15 (t_X8_keep_16 (t_X8_keep_17 aK (vp_in_nI (by omega) (by decide)) (t_X8_keep_18 (t_X8_keep_19 (?_)))))))
    rw [nar1, nI_clamp (by omega), nI_set]
    exact loop 58 0 Kp _ (by decide) (fun q hq => absurd hq (by omega)) (fun _ _ => rfl) (hM.sK (up fk j 1)) (same.set 47 _ rfl)
  · refine t_X8_keep_6 (fun h => absurd rfl h) (fun _ => ?_)
    refine t_X8_keep_9 (t_X8_keep_10 ?_)
    exact h0 (fun j hj => h j (by omega))
theorem sp_X8_back (y : Int32) (hM : moW r U fk Kp T ln nu kn ua n sk sw) (hfl : ∀ j, j < 2 → fk j ≤ 1) (h0 : (∀ j, j < 2 → y ≠ nI j) → Qs (some (.int (-1))) sw) (hN : ∀ j, j < 2 → y = nI j → fk j = 0 → Qs (some (.int (-2))) sw) (h1 : ∀ j, j < 2 → y = nI j → fk j = 1 → ∀ r' sw', (∀ k, k < 58 → r' k = Kp (58 * j + k)) → moW (r') U fk Kp T ln nu (0) ua n sk sw' → same 44 11 sw sw' → Qs (some (.int (nI (Kp (58 * j + 21))))) sw') : gv_S ε (d + 1) m_X8_back [.ref 44, .int y] sw Qs := by
  obtain ⟨afs, a8, al, a0, a1, a2, a3, a4, a5, a6, a7, a17, a18, a19, aN, aU, aK, aP, aT, aA, aB⟩ := hM.view
  refine gv_S.go rfl ?_
  refine t_X8_back_0 (t_X8_back_1 (t_X8_back_2 (t_X8_back_3 (Nat.le_of_ble_eq_true rfl) (sp_X8_inN y 1 (by decide) (fun j hj e => ?_) (fun h => ?_)))))
  · subst e
    have hf1 := hfl j (by omega)
    have loop : ∀ (m k : Nat) (r1 : Nat → Nat) (sw1 : List va_E), fk j = 1 → k + m = 58 → (∀ q, q < k → r1 q = Kp (58 * j + q)) → moW (r1) U fk Kp T ln nu kn ua n sk sw1 → same 44 11 sw sw1 → gv_M ε (d + 1) m_X8_back sw.length Qs 25 [some (.ref 44), some (.int (nI j)), some (.int (nI k))] [] sw1 0 0 := by
      intro m
      induction m with
      | zero =>
        intro k r1 sw1 hf hkm g1 hM1 m1
        obtain ⟨afs, a8, al, a0, a1, a2, a3, a4, a5, a6, a7, a17, a18, a19, aN, aU, aK, aP, aT, aA, aB⟩ := hM1.view
        refine t_X8_back_25 (t_X8_back_26 (t_X8_back_28N (by omega) (by omega) (fun h => ?_) (fun h => absurd h (by omega))))
        refine t_X8_back_54 (t_X8_back_55 (t_X8_back_56 a8 al (?_)))
        have hM2 := hM1.f1 a8 0
        have m2 : same 44 11 sw1 _ := same.set 44 (.inr (8, afs.set 1 (.int (nI 0)))) rfl
        generalize List.set sw1 _ _ = sw2 at hM2 m2 ⊢
        obtain ⟨bfs, b8, bl, b0, b1, b2, b3, b4, b5, b6, b7, b17, b18, b19, bN, bU, bK, bP, bT, bA, bB⟩ := hM2.view
        refine t_X8_back_59 (t_X8_back_60 b8 b0 (t_X8_back_63 (t_X8_back_65 bN 21 (by decide) rfl (by decide) (t_X8_back_66 ?_))))
        rw [g1 21 (by omega)]
        exact h1 j (by omega) rfl hf r1 sw2 (fun q hq => g1 q (by omega)) hM2 (m1.tr m2)
      | succ m ih =>
        intro k r1 sw1 hf hkm g1 hM1 m1
        obtain ⟨afs, a8, al, a0, a1, a2, a3, a4, a5, a6, a7, a17, a18, a19, aN, aU, aK, aP, aT, aA, aB⟩ := hM1.view
        refine t_X8_back_25 (t_X8_back_26 (t_X8_back_28N (by omega) (by omega) (fun h => absurd h (by omega)) (fun h => ?_)))
        refine t_X8_back_31 (t_X8_back_32 a8 a0 (t_X8_back_35 (t_X8_back_36 (t_X8_back_37 a8 a5 (t_X8_back_40 (t_X8_back_42 (t_X8_back_43N (t_X8_back_44 (t_X8_back_45N (t_X8_back_46 aP (58 * j + k) (by omega) rfl (by decide) (t_X8_back_47 aN k h rfl (by decide) (t_X8_back_48N (t_X8_back_51 (?_))))))))))))))
        rw [nI_set]
        refine ih (k + 1) (up r1 k (Kp (58 * j + k))) _ hf (by omega) (fun q hq => ?_) (hM1.sR _) (m1.tr (same.set 45 _ rfl))
        by_cases e : q = k
        · subst e
          exact up_at _ _ _
        · rw [up_ne e]
          exact g1 q (by omega)
    refine t_X8_back_6 (fun _ => ?_) (fun h => absurd h (by decide))
    refine t_X8_back_11 (t_X8_back_12 a8 a4 (t_X8_back_15 (t_X8_back_16 aK (vp_in_nI (by omega) (by decide)) (?_))))
    rw [nI_clamp (by omega)]
    refine t_X8_back_17N (by omega) (fun g => ?_) (fun g => ?_)
    · refine t_X8_back_23 (t_X8_back_24 (?_))
      exact loop 58 0 r sw (by omega) (by decide) (fun q hq => absurd hq (by omega)) hM same.rf
    · refine t_X8_back_20 (t_X8_back_22 ?_)
      exact hN j (by omega) rfl g
  · refine t_X8_back_6 (fun h => absurd rfl h) (fun _ => ?_)
    refine t_X8_back_9 (t_X8_back_10 ?_)
    exact h0 (fun j hj => h j (by omega))
theorem sp_X8_count (y : Int32) (hM : moW r U fk Kp T ln nu kn ua n sk sw) (hr : roOk r) (h0 : (∀ j, j < 9 → y ≠ nI j) → Qs (some (.int (-1))) sw) (h1 : ∀ j, j < 9 → y = nI j → Qs (some (.int (nI (ctR r kn sk n j)))) sw) : gv_S ε (d + 5) m_X8_count [.ref 44, .int y] sw Qs := by
  obtain ⟨afs, a8, al, a0, a1, a2, a3, a4, a5, a6, a7, a17, a18, a19, aN, aU, aK, aP, aT, aA, aB⟩ := hM.view
  refine gv_S.go rfl ?_
  rcases arg_in y (n := 9) (by decide) with q | q | ⟨j, hj, e⟩
  · refine t_X8_count_0 (t_X8_count_1_d (Or.inl (by rw [Int32.lt_iff_toInt_lt, Int32.toInt_zero] at q; exact q)) ?_)
    refine t_X8_count_108 (t_X8_count_109 ?_)
    refine h0 (fun j hj e => ?_)
    rw [e] at q
    exact nI_pos (by omega) q
  · refine t_X8_count_0 (t_X8_count_1_d (Or.inr (by rw [Int32.le_iff_toInt_le, nI_toInt (by decide)] at q; omega)) ?_)
    refine t_X8_count_108 (t_X8_count_109 ?_)
    refine h0 (fun j hj e => ?_)
    rw [e] at q
    exact nI_ge hj (by decide) q
  · subst e
    have fin := h1 j hj rfl
    have hj9 : j = 0 ∨ j = 1 ∨ j = 2 ∨ j = 3 ∨ j = 4 ∨ j = 5 ∨ j = 6 ∨ j = 7 ∨ j = 8 := by omega
    rcases hj9 with e | e | e | e | e | e | e | e | e <;> subst e
    · refine t_X8_count_0 (t_X8_count_1_0 ?_)
      refine t_X8_count_52 (t_X8_count_53 a8 a0 (t_X8_count_56 (t_X8_count_58 aN 21 (by decide) rfl (by decide) (t_X8_count_59 ?_))))
      exact fin
    · refine t_X8_count_0 (t_X8_count_1_1 ?_)
      refine t_X8_count_60 (t_X8_count_61 (t_X8_count_62 a8 (Nat.le_of_ble_eq_true rfl) (sp_X8_ofLines 0 hM.qm hr (by decide) ?_)))
      refine t_X8_count_65 ?_
      exact fin
    · refine t_X8_count_0 (t_X8_count_1_2 ?_)
      refine t_X8_count_66 (t_X8_count_67 (t_X8_count_68 a8 (Nat.le_of_ble_eq_true rfl) (sp_X8_ofLines 1 hM.qm hr (by decide) ?_)))
      refine t_X8_count_71 ?_
      exact fin
    · refine t_X8_count_0 (t_X8_count_1_3 ?_)
      refine t_X8_count_72 (t_X8_count_73 a8 a0 (t_X8_count_76 (t_X8_count_77 aN 0 (by decide) rfl (by decide) (t_X8_count_78 ?_))))
      exact fin
    · refine t_X8_count_0 (t_X8_count_1_4 ?_)
      refine t_X8_count_79 (t_X8_count_80 a8 a0 (t_X8_count_83 (t_X8_count_84 aN 1 (by decide) rfl (by decide) (t_X8_count_85 ?_))))
      exact fin
    · refine t_X8_count_0 (t_X8_count_1_5 ?_)
      refine t_X8_count_86 (t_X8_count_87 a8 a0 (t_X8_count_90 (t_X8_count_91 aN 2 (by decide) rfl (by decide) (t_X8_count_92 ?_))))
      exact fin
    · refine t_X8_count_0 (t_X8_count_1_6 ?_)
      refine t_X8_count_93 (t_X8_count_94 a8 a17 (t_X8_count_97 ?_))
      exact fin
    · refine t_X8_count_0 (t_X8_count_1_7 ?_)
      refine t_X8_count_98 (t_X8_count_99 a8 a6 (t_X8_count_102 ?_))
      exact fin
    · refine t_X8_count_0 (t_X8_count_1_8 ?_)
      refine t_X8_count_103 (t_X8_count_104 a8 a1 (t_X8_count_107 ?_))
      exact fin
theorem sp_X8_place (y z : Int32) (hM : moW r U fk Kp T ln nu kn ua n sk sw) (hr : roOk r) (h0 : ¬ (∃ l w, l < r 21 ∧ w ≤ 2 ∧ y = nI l ∧ z = nI w) → Qs (some (.int (-1))) sw) (h1 : ∀ l w, l < r 21 → w ≤ 2 → y = nI l → z = nI w → Qs (some (.int (nI (plN (r 2) l w)))) sw) : gv_S ε (d + 2) m_X8_place [.ref 44, .int y, .int z] sw Qs := by
  obtain ⟨afs, a8, al, a0, a1, a2, a3, a4, a5, a6, a7, a17, a18, a19, aN, aU, aK, aP, aT, aA, aB⟩ := hM.view
  have hl4 := hr.2.2.2.2.1
  have hf := hr.2.2.1
  refine gv_S.go rfl ?_
  refine t_X8_place_0 (t_X8_place_1 (t_X8_place_2 a8 (Nat.le_of_ble_eq_true rfl) (sp_X8_isLine y hM.qm hl4 (fun l hl e => ?_) (fun h => ?_))))
  · refine t_X8_place_5 (fun h => absurd h (by decide)) (fun _ => ?_)
    refine t_X8_place_8 (t_X8_place_9 (t_X8_place_10 (t_X8_place_11 (Nat.le_of_ble_eq_true rfl) (sp_X8_inN z 2 (by decide) (fun w hw e2 => ?_) (fun h => ?_)))))
    · subst e
      subst e2
      have fin := h1 l w hl hw rfl rfl
      unfold plN at fin
      have hfl : r 2 * l ≤ 72 * 4 := Nat.mul_le_mul hf.2 (by omega)
      refine t_X8_place_14 (fun _ => ?_) (fun h => absurd h (by decide))
      refine t_X8_place_19 (t_X8_place_20 (t_X8_place_21 a8 a0 (t_X8_place_24 (t_X8_place_25 aN 2 (by decide) rfl (by decide) (t_X8_place_26N (?_))))))
      rw [Nat.mul_comm l (r 2)]
      generalize r 2 * l = fd at fin hfl ⊢
      have done : ∀ u v a6, mdF 72 (fd % 72) 72 = (u, v) → gv_M ε (d + 2) m_X8_place sw.length Qs 84 [some (.ref 44), some (.int (nI l)), some (.int (nI w)), some (.int (nI fd)), some (.int (nI u)), some (.int (nI v)), a6] [] sw 0 0 := by
        intro u v a6 e
        rw [md_dv (fd % 72) (by omega)] at e
        injection e with eu ev
        refine t_X8_place_84 (t_X8_place_85N (by omega) (fun q => ?_) (fun q => ?_))
        · rw [if_neg (by omega)] at fin
          refine t_X8_place_95 (t_X8_place_96 (t_X8_place_97N (by omega) (by omega) (fun k => ?_) (fun k => ?_)))
          · rw [if_neg k, ev] at fin
            refine t_X8_place_105 (t_X8_place_107 ?_)
            exact fin
          · rw [if_pos k, eu] at fin
            refine t_X8_place_100 (t_X8_place_102 (t_X8_place_107 ?_))
            exact fin
        · rw [if_pos q] at fin
          refine t_X8_place_88 (t_X8_place_89 (t_X8_place_91N (by omega) (by decide) (by decide) (t_X8_place_92 (t_X8_place_107 ?_))))
          exact fin
      have loop : ∀ dv u v, dv + 1 ≤ 72 → u < 72 → v ≤ 72 → mdF 72 (fd % 72) 72 = mdF (dv + 1) u v → gv_M ε (d + 2) m_X8_place sw.length Qs 42 [some (.ref 44), some (.int (nI l)), some (.int (nI w)), some (.int (nI fd)), some (.int (nI u)), some (.int (nI v)), some (.int (nI (dv + 1)))] [] sw 0 0 := by
        intro dv
        induction dv with
        | zero =>
          intro u v k1 k2 k3 e
          refine t_X8_place_42 (t_X8_place_44 (t_X8_place_45N (by omega) (by omega) (fun q => ?_) (fun q => absurd q (by omega))))
          exact done u v _ e
        | succ dv ih =>
          intro u v k1 k2 k3 e
          have e2 : mdF (dv + 1 + 1) u v = if 1 < dv + 1 + 1 then (if u % (dv + 1 + 1) = 0 ∧ v % (dv + 1 + 1) = 0 then mdF (dv + 1) (u / (dv + 1 + 1)) (v / (dv + 1 + 1)) else mdF (dv + 1) u v) else (u, v) := rfl
          rw [if_pos (by omega)] at e2
          have h72 : u % (dv + 1 + 1) < dv + 1 + 1 := Nat.mod_lt _ (by omega)
          have h73 : v % (dv + 1 + 1) < dv + 1 + 1 := Nat.mod_lt _ (by omega)
          refine t_X8_place_42 (t_X8_place_44 (t_X8_place_45N (by omega) (by omega) (fun q => absurd q (by omega)) (fun q => ?_)))
          refine t_X8_place_48 (t_X8_place_50 (t_X8_place_52N (by omega) (by omega) (by omega) (t_X8_place_53N (by omega) (fun z => ?_) (fun z => ?_))))
          · rw [if_neg (fun t => by omega)] at e2
            refine t_X8_place_78 (t_X8_place_81 (?_))
            rw [pk_m1]
            exact ih u v (by omega) k2 k3 (e.trans e2)
          · refine t_X8_place_56 (t_X8_place_58 (t_X8_place_60N (by omega) (by omega) (by omega) (t_X8_place_61N (by omega) (fun t => ?_) (fun t => ?_))))
            · rw [if_neg (fun t => by omega)] at e2
              refine t_X8_place_78 (t_X8_place_81 (?_))
              rw [pk_m1]
              exact ih u v (by omega) k2 k3 (e.trans e2)
            · rw [if_pos ⟨z, t⟩] at e2
              refine t_X8_place_64 (t_X8_place_66 (t_X8_place_68N (by omega) (by omega) (by omega) (t_X8_place_69 (t_X8_place_71 (t_X8_place_73 (t_X8_place_75N (by omega) (by omega) (by omega) (t_X8_place_76 (t_X8_place_78 (t_X8_place_81 (?_))))))))))
              rw [pk_m1]
              exact ih _ _ (by omega) (Nat.lt_of_le_of_lt (Nat.div_le_self _ _) k2) (Nat.le_trans (Nat.div_le_self _ _) k3) (e.trans e2)
      refine t_X8_place_27 (t_X8_place_28 (t_X8_place_29 (t_X8_place_31N (by omega) (by decide) (by decide) (t_X8_place_32 (t_X8_place_34 (t_X8_place_36 (t_X8_place_38 (t_X8_place_40 (?_)))))))))
      exact loop 71 (fd % 72) 72 (by decide) (by omega) (by decide) rfl
    · refine t_X8_place_14 (fun h => absurd rfl h) (fun _ => ?_)
      refine t_X8_place_17 (t_X8_place_18 ?_)
      exact h0 (fun ⟨l, c, _, q, _, q2⟩ => h c q q2)
  · refine t_X8_place_5 (fun _ => ?_) (fun h => absurd rfl h)
    refine t_X8_place_17 (t_X8_place_18 ?_)
    exact h0 (fun ⟨l, c, q, _, q2, _⟩ => h l q q2)
end S8
