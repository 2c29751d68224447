/-! the walk over the slots, the plan -/
def trnI (np : Nat → Nat) (lo hi : Nat → Nat → Int) (k : Nat) : Nat := if rtB (sumN np 4) (seqZ np lo) (seqZ np hi) k (pthZ (sumN np 4) (seqZ np lo) (seqZ np hi) k) = true then 0 else 1
theorem skZ_bd {n : Nat} {a b : Nat → Int} (hab : spOk a b) : ∀ k, 0 ≤ skZ n a b k ∧ skZ n a b k ≤ 60 * k := by
  intro k
  induction k with
  | zero => exact ⟨Int.le_refl _, by simp [skZ]⟩
  | succ k ih =>
    rw [skZ_s]
    have h1 := dst_bd (pthZ_bd (n := n) hab k) (hab k).1
    have h2 := dst_bd (pthZ_bd (n := n) hab k) (hab k).2
    split <;> omega
theorem stZ_s (a b : Nat → Int) (k : Nat) : stZ a b (k + 1) = stZ a b k + (b k - a k) := rfl
theorem stZ_bd {a b : Nat → Int} (hab : spOk a b) : ∀ k : Nat, -(60 * (k : Int)) ≤ stZ a b k ∧ stZ a b k ≤ 60 * k := by
  intro k
  induction k with
  | zero => exact ⟨by simp [stZ], by simp [stZ]⟩
  | succ k ih =>
    rw [stZ_s]
    have := hab k
    omega
section S0
variable {ε : gv_E} {d : Nat} {Qs : Option Value → List va_E → Prop} {sw : List va_E} {s : shT} {am lf rg tn al ar : Nat → Int32} {a b c : Int32}
theorem sp_X0_walk {np : Nat → Nat} {lo hi : Nat → Nat → Int} (hw : wt 27 (coG am lf rg tn al ar a b c) sw) (hok : coOk np lo hi am lf rg) (haft : aftOk np lo hi al ar 0) (hq : ∀ (tn' : Nat → Int32) (sw' : List va_E), (∀ i, i < 40 → i % 10 < np (i / 10) → tn' i = nI (trnI np lo hi (rkN np i))) → wt 27 (coG am lf rg tn' al ar (zI (cst (sumN np 4) (seqZ np lo) (seqZ np hi) (sumN np 4) 0)) (zI (stZ (seqZ np lo) (seqZ np hi) (sumN np 4))) (zI (pthZ (sumN np 4) (seqZ np lo) (seqZ np hi) (sumN np 4)))) sw' → same 27 7 sw sw' → Qs none sw') : gv_S ε (d + 2) m_X0_walk [.ref 27] sw Qs := by
  obtain ⟨o1, o2, o3, o4, o5⟩ := id hok
  have hn := hok.n
  have hsp := seqZ_ok (np := np) o2 o3
  generalize hN : sumN np 4 = N at *
  generalize hA : seqZ np lo = A at *
  generalize hB : seqZ np hi = B at *
  have loop : ∀ (m i : Nat) (tn1 : Nat → Int32) (a2 : Option Value) (sw1 : List va_E), i + m = 40 → (∀ j, j < i → j % 10 < np (j / 10) → tn1 j = nI (trnI np lo hi (rkN np j))) → wt 27 (coG am lf rg tn1 al ar (zI (skZ N A B (rkN np i))) (zI (stZ A B (rkN np i))) (zI (pthZ N A B (rkN np i)))) sw1 → same 27 7 sw sw1 → gv_M ε (d + 2) m_X0_walk sw.length Qs 17 [some (.ref 27), some (.int (nI i)), a2] [] sw1 0 0 := by
    intro m
    induction m with
    | zero =>
      intro i tn1 a2 sw1 him ht w1 hsm
      refine t_X0_walk_17 (t_X0_walk_18 (t_X0_walk_20N (by omega) (by omega) (fun h => ?_) (fun h => absurd h (by omega))))
      refine t_X0_walk_160 (Nat.le_refl _) ?_
      have e : i = 40 := by omega
      subst e
      rw [rkN_40, hN] at w1
      have e2 := skZ_eq (n := N) (a := A) (b := B) N (Nat.le_refl _)
      rw [Nat.sub_self] at e2
      have e3 : skZ N A B N = cst N A B N 0 := by
        rw [← e2]
        show _ = _ + 0
        rw [Int.add_zero]
      rw [e3] at w1
      exact hq tn1 sw1 ht w1 hsm
    | succ m ih =>
      intro i tn1 a2 sw1 him ht w1 hsm
      have hs := rkN_s o1 i
      have h0 := w1.at 0 rfl
      have h0 : sw1[27]? = some (.inr (0, [.ref 28, .ref 29, .ref 30, .ref 31, .ref 32, .ref 33, .int (zI (skZ N A B (rkN np i))), .int (zI (stZ A B (rkN np i))), .int (zI (pthZ N A B (rkN np i)))])) := h0
      refine t_X0_walk_17 (t_X0_walk_18 (t_X0_walk_20N (by omega) (by omega) (fun h => absurd h (by omega)) (fun h => ?_)))
      refine t_X0_walk_23 (t_X0_walk_24 (t_X0_walk_25 h0 (Nat.le_of_ble_eq_true rfl) (sp_X0_isUsed i np w1 o1 o4 (by omega) ?_)))
      by_cases hu : i % 10 < np (i / 10)
      · rw [if_pos hu] at hs ⊢
        have hk := rkN_lt o1 (by omega) hu
        rw [hN] at hk
        obtain ⟨s1, s2⟩ := o5 i (by omega) hu
        obtain ⟨p1, p2⟩ := haft i (Nat.zero_le _) (by omega) hu
        rw [hN, hA, hB] at p1 p2
        have ea : A (rkN np i) = lo (i / 10) (i % 10) := by rw [← hA]; exact seq_at (by omega) hu
        have eb : B (rkN np i) = hi (i / 10) (i % 10) := by rw [← hB]; exact seq_at (by omega) hu
        rw [← ea] at s1
        rw [← eb] at s2
        have et : trnI np lo hi (rkN np i) = if rtB N A B (rkN np i) (pthZ N A B (rkN np i)) = true then 0 else 1 := by
          unfold trnI
          rw [hN, hA, hB]
        generalize rkN np i = k at *
        have bp := pthZ_bd (n := N) hsp k
        have bk := hsp k
        have d1 := dst_bd bp bk.1
        have d2 := dst_bd bp bk.2
        have c1 := cst_bd (n := N) hsp (N - (k + 1)) _ bk.1
        have c2 := cst_bd (n := N) hsp (N - (k + 1)) _ bk.2
        have q1 := skZ_bd (n := N) hsp k
        have q2 := stZ_bd hsp k
        refine t_X0_walk_28 (fun h => absurd h (by decide)) (fun _ => ?_)
        refine t_X0_walk_31 (t_X0_walk_32 (t_X0_walk_33 h0 rfl (t_X0_walk_36 (t_X0_walk_37 h0 (Nat.le_of_ble_eq_true rfl) (sp_X0_fromLeft i _ _ _ w1 (by omega) s1 p2 bp bk.1 ?_)))))
        refine t_X0_walk_40 (t_X0_walk_41 (t_X0_walk_42 h0 rfl (t_X0_walk_45 (t_X0_walk_46 h0 (Nat.le_of_ble_eq_true rfl) (sp_X0_fromRight i _ _ _ w1 (by omega) s2 p1 bp bk.2 ?_)))))
        have hT : sw1[31]? = some (.inl (0, 40, .inl tn1)) := w1.at 4 rfl
        -- both roads: turns, seeks, strokes, end
        by_cases hr : rtB N A B k (pthZ N A B k) = true
        · have hle : dst (pthZ N A B k) (A k) + cst N A B (N - (k + 1)) (B k) ≤ dst (pthZ N A B k) (B k) + cst N A B (N - (k + 1)) (A k) := of_decide_eq_true hr
          rw [if_pos hr] at et
          refine t_X0_walk_49 (fun y => absurd ((zI_lt (by omega) (by omega)).mp y) (by omega)) (fun _ => ?_)
          refine t_X0_walk_52 (t_X0_walk_53 (t_X0_walk_57 (t_X0_walk_58 (t_X0_walk_59 h0 rfl (t_X0_walk_62 (t_X0_walk_63 (t_X0_walk_64 (fun h => absurd h (by decide)) (fun _ => ?_))))))))
          refine t_X0_walk_67 (t_X0_walk_68 (t_X0_walk_72 hT i (by omega) rfl (by decide) (?_)))
          have w2 : wt 27 (coG am lf rg (upd tn1 i (nI 0)) al ar (zI (skZ N A B k)) (zI (stZ A B k)) (zI (pthZ N A B k))) (sw1.set 31 (.inl (0, 40, .inl (upd tn1 i (nI 0))))) := w1.set 4 _ rfl
          have hsm2 : same 27 7 sw1 (sw1.set 31 (.inl (0, 40, .inl (upd tn1 i (nI 0))))) := same.set 31 _ rfl
          generalize sw1.set 31 (.inl (0, 40, .inl (upd tn1 i (nI 0)))) = sw2 at w2 hsm2 ⊢
          have g0 : sw2[27]? = some (.inr (0, [.ref 28, .ref 29, .ref 30, .ref 31, .ref 32, .ref 33, .int (zI (skZ N A B k)), .int (zI (stZ A B k)), .int (zI (pthZ N A B k))])) := w2.at 0 rfl
          have gL : sw2[29]? = some (.inl (0, 40, .inl lf)) := w2.at 2 rfl
          refine t_X0_walk_73 (t_X0_walk_74 rfl (t_X0_walk_75 g0 rfl (t_X0_walk_78 (t_X0_walk_79 g0 rfl (t_X0_walk_82 (t_X0_walk_83 (fun h => absurd h (by decide)) (fun _ => ?_)))))))
          refine t_X0_walk_86 (t_X0_walk_87 g0 rfl (t_X0_walk_90 (t_X0_walk_91 gL i (by omega) rfl (by decide) (t_X0_walk_92 (?_)))))
          rw [s1]
          refine t_X0_walk_101 (?_)
          rw [zI_sub]
          refine t_X0_walk_102 (Nat.le_of_ble_eq_true rfl)  (?_)
          rw [absZ (by omega), dst_abs]
          refine t_X0_walk_105 (?_)
          rw [zI_add]
          refine t_X0_walk_106 g0 rfl (?_)
          have w3 : wt 27 (coG am lf rg (upd tn1 i (nI 0)) al ar (zI (skZ N A B k + dst (pthZ N A B k) (A k))) (zI (stZ A B k)) (zI (pthZ N A B k))) (sw2.set 27 (.inr (0, [.ref 28, .ref 29, .ref 30, .ref 31, .ref 32, .ref 33, .int (zI (skZ N A B k + dst (pthZ N A B k) (A k))), .int (zI (stZ A B k)), .int (zI (pthZ N A B k))]))) := w2.set 0 _ rfl
          have hsm3 : same 27 7 sw2 (sw2.set 27 (.inr (0, [.ref 28, .ref 29, .ref 30, .ref 31, .ref 32, .ref 33, .int (zI (skZ N A B k + dst (pthZ N A B k) (A k))), .int (zI (stZ A B k)), .int (zI (pthZ N A B k))]))) := same.set 27 _ rfl
          show gv_M ε (d + 2) m_X0_walk sw.length Qs 109 _ _ (sw2.set 27 (.inr (0, [.ref 28, .ref 29, .ref 30, .ref 31, .ref 32, .ref 33, .int (zI (skZ N A B k + dst (pthZ N A B k) (A k))), .int (zI (stZ A B k)), .int (zI (pthZ N A B k))]))) 0 0
          generalize sw2.set 27 (.inr (0, [.ref 28, .ref 29, .ref 30, .ref 31, .ref 32, .ref 33, .int (zI (skZ N A B k + dst (pthZ N A B k) (A k))), .int (zI (stZ A B k)), .int (zI (pthZ N A B k))])) = sw3 at w3 hsm3 ⊢
          have j0 : sw3[27]? = some (.inr (0, [.ref 28, .ref 29, .ref 30, .ref 31, .ref 32, .ref 33, .int (zI (skZ N A B k + dst (pthZ N A B k) (A k))), .int (zI (stZ A B k)), .int (zI (pthZ N A B k))])) := w3.at 0 rfl
          have jL : sw3[29]? = some (.inl (0, 40, .inl lf)) := w3.at 2 rfl
          have jR : sw3[30]? = some (.inl (0, 40, .inl rg)) := w3.at 3 rfl
          refine t_X0_walk_109 (t_X0_walk_110 rfl (t_X0_walk_111 j0 rfl (t_X0_walk_114 (t_X0_walk_115 j0 rfl (t_X0_walk_118 (t_X0_walk_119 jR i (by omega) rfl (by decide) (t_X0_walk_120 (t_X0_walk_121 j0 rfl (t_X0_walk_124 (t_X0_walk_125 jL i (by omega) rfl (by decide) (?_)))))))))))
          rw [s1, s2]
          refine t_X0_walk_126 (?_)
          rw [zI_sub]
          refine t_X0_walk_127 (?_)
          rw [zI_add]
          refine t_X0_walk_128 j0 rfl (?_)
          have w4 : wt 27 (coG am lf rg (upd tn1 i (nI 0)) al ar (zI (skZ N A B k + dst (pthZ N A B k) (A k))) (zI (stZ A B k + (B k - A k))) (zI (pthZ N A B k))) (sw3.set 27 (.inr (0, [.ref 28, .ref 29, .ref 30, .ref 31, .ref 32, .ref 33, .int (zI (skZ N A B k + dst (pthZ N A B k) (A k))), .int (zI (stZ A B k + (B k - A k))), .int (zI (pthZ N A B k))]))) := w3.set 0 _ rfl
          have hsm4 : same 27 7 sw3 (sw3.set 27 (.inr (0, [.ref 28, .ref 29, .ref 30, .ref 31, .ref 32, .ref 33, .int (zI (skZ N A B k + dst (pthZ N A B k) (A k))), .int (zI (stZ A B k + (B k - A k))), .int (zI (pthZ N A B k))]))) := same.set 27 _ rfl
          show gv_M ε (d + 2) m_X0_walk sw.length Qs 131 _ _ (sw3.set 27 (.inr (0, [.ref 28, .ref 29, .ref 30, .ref 31, .ref 32, .ref 33, .int (zI (skZ N A B k + dst (pthZ N A B k) (A k))), .int (zI (stZ A B k + (B k - A k))), .int (zI (pthZ N A B k))]))) 0 0
          generalize sw3.set 27 (.inr (0, [.ref 28, .ref 29, .ref 30, .ref 31, .ref 32, .ref 33, .int (zI (skZ N A B k + dst (pthZ N A B k) (A k))), .int (zI (stZ A B k + (B k - A k))), .int (zI (pthZ N A B k))])) = sw4 at w4 hsm4 ⊢
          have l0 : sw4[27]? = some (.inr (0, [.ref 28, .ref 29, .ref 30, .ref 31, .ref 32, .ref 33, .int (zI (skZ N A B k + dst (pthZ N A B k) (A k))), .int (zI (stZ A B k + (B k - A k))), .int (zI (pthZ N A B k))])) := w4.at 0 rfl
          have lR : sw4[30]? = some (.inl (0, 40, .inl rg)) := w4.at 3 rfl
          refine t_X0_walk_131 (t_X0_walk_132 (t_X0_walk_133 (fun h => absurd h (by decide)) (fun _ => ?_)))
          refine t_X0_walk_136 (t_X0_walk_137 l0 rfl (t_X0_walk_140 (t_X0_walk_141 lR i (by omega) rfl (by decide) (t_X0_walk_142 (?_)))))
          rw [s2]
          refine t_X0_walk_151 l0 rfl (t_X0_walk_154N (t_X0_walk_157 (?_)))
          refine ih (i + 1) (upd tn1 i (nI 0)) _ _ (by omega) (fun j hj huj => ?_) ?_ ((((hsm.tr hsm2).tr hsm3).tr hsm4).tr (same.set 27 _ rfl))
          · by_cases q : j = i
            · subst q
              rw [pk_us]
              have : rkN np j = k := by
                have := rkN_s o1 j
                rw [if_pos hu] at this
                omega
              rw [this, et]
            · rw [pk_un q]
              exact ht j (by omega) huj
          · rw [hs, skZ_s, pthZ_s, stZ_s, if_pos hr, if_pos hr]
            exact w4.set 0 _ rfl
        · have hle : ¬ dst (pthZ N A B k) (A k) + cst N A B (N - (k + 1)) (B k) ≤ dst (pthZ N A B k) (B k) + cst N A B (N - (k + 1)) (A k) := by
            unfold rtB at hr
            simpa using hr
          rw [if_neg hr] at et
          refine t_X0_walk_49 (fun _ => ?_) (fun y => absurd ((zI_lt (by omega) (by omega)).mpr (by omega)) y)
          refine t_X0_walk_56 (t_X0_walk_57 (t_X0_walk_58 (t_X0_walk_59 h0 rfl (t_X0_walk_62 (t_X0_walk_63 (t_X0_walk_64 (fun _ => ?_) (fun h => absurd rfl h)))))))
          refine t_X0_walk_71 (t_X0_walk_72 hT i (by omega) rfl (by decide) (?_))
          have w2 : wt 27 (coG am lf rg (upd tn1 i (nI 1)) al ar (zI (skZ N A B k)) (zI (stZ A B k)) (zI (pthZ N A B k))) (sw1.set 31 (.inl (0, 40, .inl (upd tn1 i (nI 1))))) := w1.set 4 _ rfl
          have hsm2 : same 27 7 sw1 (sw1.set 31 (.inl (0, 40, .inl (upd tn1 i (nI 1))))) := same.set 31 _ rfl
          generalize sw1.set 31 (.inl (0, 40, .inl (upd tn1 i (nI 1)))) = sw2 at w2 hsm2 ⊢
          have g0 : sw2[27]? = some (.inr (0, [.ref 28, .ref 29, .ref 30, .ref 31, .ref 32, .ref 33, .int (zI (skZ N A B k)), .int (zI (stZ A B k)), .int (zI (pthZ N A B k))])) := w2.at 0 rfl
          have gR : sw2[30]? = some (.inl (0, 40, .inl rg)) := w2.at 3 rfl
          refine t_X0_walk_73 (t_X0_walk_74 rfl (t_X0_walk_75 g0 rfl (t_X0_walk_78 (t_X0_walk_79 g0 rfl (t_X0_walk_82 (t_X0_walk_83 (fun _ => ?_) (fun h => absurd rfl h)))))))
          refine t_X0_walk_95 (t_X0_walk_96 g0 rfl (t_X0_walk_99 (t_X0_walk_100 gR i (by omega) rfl (by decide) (?_))))
          rw [s2]
          refine t_X0_walk_101 (?_)
          rw [zI_sub]
          refine t_X0_walk_102 (Nat.le_of_ble_eq_true rfl)  (?_)
          rw [absZ (by omega), dst_abs]
          refine t_X0_walk_105 (?_)
          rw [zI_add]
          refine t_X0_walk_106 g0 rfl (?_)
          have w3 : wt 27 (coG am lf rg (upd tn1 i (nI 1)) al ar (zI (skZ N A B k + dst (pthZ N A B k) (B k))) (zI (stZ A B k)) (zI (pthZ N A B k))) (sw2.set 27 (.inr (0, [.ref 28, .ref 29, .ref 30, .ref 31, .ref 32, .ref 33, .int (zI (skZ N A B k + dst (pthZ N A B k) (B k))), .int (zI (stZ A B k)), .int (zI (pthZ N A B k))]))) := w2.set 0 _ rfl
          have hsm3 : same 27 7 sw2 (sw2.set 27 (.inr (0, [.ref 28, .ref 29, .ref 30, .ref 31, .ref 32, .ref 33, .int (zI (skZ N A B k + dst (pthZ N A B k) (B k))), .int (zI (stZ A B k)), .int (zI (pthZ N A B k))]))) := same.set 27 _ rfl
          show gv_M ε (d + 2) m_X0_walk sw.length Qs 109 _ _ (sw2.set 27 (.inr (0, [.ref 28, .ref 29, .ref 30, .ref 31, .ref 32, .ref 33, .int (zI (skZ N A B k + dst (pthZ N A B k) (B k))), .int (zI (stZ A B k)), .int (zI (pthZ N A B k))]))) 0 0
          generalize sw2.set 27 (.inr (0, [.ref 28, .ref 29, .ref 30, .ref 31, .ref 32, .ref 33, .int (zI (skZ N A B k + dst (pthZ N A B k) (B k))), .int (zI (stZ A B k)), .int (zI (pthZ N A B k))])) = sw3 at w3 hsm3 ⊢
          have j0 : sw3[27]? = some (.inr (0, [.ref 28, .ref 29, .ref 30, .ref 31, .ref 32, .ref 33, .int (zI (skZ N A B k + dst (pthZ N A B k) (B k))), .int (zI (stZ A B k)), .int (zI (pthZ N A B k))])) := w3.at 0 rfl
          have jL : sw3[29]? = some (.inl (0, 40, .inl lf)) := w3.at 2 rfl
          have jR : sw3[30]? = some (.inl (0, 40, .inl rg)) := w3.at 3 rfl
          refine t_X0_walk_109 (t_X0_walk_110 rfl (t_X0_walk_111 j0 rfl (t_X0_walk_114 (t_X0_walk_115 j0 rfl (t_X0_walk_118 (t_X0_walk_119 jR i (by omega) rfl (by decide) (t_X0_walk_120 (t_X0_walk_121 j0 rfl (t_X0_walk_124 (t_X0_walk_125 jL i (by omega) rfl (by decide) (?_)))))))))))
          rw [s1, s2]
          refine t_X0_walk_126 (?_)
          rw [zI_sub]
          refine t_X0_walk_127 (?_)
          rw [zI_add]
          refine t_X0_walk_128 j0 rfl (?_)
          have w4 : wt 27 (coG am lf rg (upd tn1 i (nI 1)) al ar (zI (skZ N A B k + dst (pthZ N A B k) (B k))) (zI (stZ A B k + (B k - A k))) (zI (pthZ N A B k))) (sw3.set 27 (.inr (0, [.ref 28, .ref 29, .ref 30, .ref 31, .ref 32, .ref 33, .int (zI (skZ N A B k + dst (pthZ N A B k) (B k))), .int (zI (stZ A B k + (B k - A k))), .int (zI (pthZ N A B k))]))) := w3.set 0 _ rfl
          have hsm4 : same 27 7 sw3 (sw3.set 27 (.inr (0, [.ref 28, .ref 29, .ref 30, .ref 31, .ref 32, .ref 33, .int (zI (skZ N A B k + dst (pthZ N A B k) (B k))), .int (zI (stZ A B k + (B k - A k))), .int (zI (pthZ N A B k))]))) := same.set 27 _ rfl
          show gv_M ε (d + 2) m_X0_walk sw.length Qs 131 _ _ (sw3.set 27 (.inr (0, [.ref 28, .ref 29, .ref 30, .ref 31, .ref 32, .ref 33, .int (zI (skZ N A B k + dst (pthZ N A B k) (B k))), .int (zI (stZ A B k + (B k - A k))), .int (zI (pthZ N A B k))]))) 0 0
          generalize sw3.set 27 (.inr (0, [.ref 28, .ref 29, .ref 30, .ref 31, .ref 32, .ref 33, .int (zI (skZ N A B k + dst (pthZ N A B k) (B k))), .int (zI (stZ A B k + (B k - A k))), .int (zI (pthZ N A B k))])) = sw4 at w4 hsm4 ⊢
          have l0 : sw4[27]? = some (.inr (0, [.ref 28, .ref 29, .ref 30, .ref 31, .ref 32, .ref 33, .int (zI (skZ N A B k + dst (pthZ N A B k) (B k))), .int (zI (stZ A B k + (B k - A k))), .int (zI (pthZ N A B k))])) := w4.at 0 rfl
          have lL : sw4[29]? = some (.inl (0, 40, .inl lf)) := w4.at 2 rfl
          refine t_X0_walk_131 (t_X0_walk_132 (t_X0_walk_133 (fun _ => ?_) (fun h => absurd rfl h)))
          refine t_X0_walk_145 (t_X0_walk_146 l0 rfl (t_X0_walk_149 (t_X0_walk_150 lL i (by omega) rfl (by decide) (?_))))
          rw [s1]
          refine t_X0_walk_151 l0 rfl (t_X0_walk_154N (t_X0_walk_157 (?_)))
          refine ih (i + 1) (upd tn1 i (nI 1)) _ _ (by omega) (fun j hj huj => ?_) ?_ ((((hsm.tr hsm2).tr hsm3).tr hsm4).tr (same.set 27 _ rfl))
          · by_cases q : j = i
            · subst q
              rw [pk_us]
              have : rkN np j = k := by
                have := rkN_s o1 j
                rw [if_pos hu] at this
                omega
              rw [this, et]
            · rw [pk_un q]
              exact ht j (by omega) huj
          · rw [hs, skZ_s, pthZ_s, stZ_s, if_neg hr, if_neg hr]
            exact w4.set 0 _ rfl
      · rw [if_neg hu] at hs ⊢
        refine t_X0_walk_28 (fun _ => ?_) (fun h => absurd rfl h)
        refine t_X0_walk_154N (t_X0_walk_157 (?_))
        refine ih (i + 1) tn1 _ sw1 (by omega) (fun j hj huj => ?_) (by rw [hs, Nat.add_zero]; exact w1) hsm
        by_cases q : j = i
        · subst q
          exact absurd huj hu
        · exact ht j (by omega) huj
  have g0 : sw[27]? = some (.inr (0, [.ref 28, .ref 29, .ref 30, .ref 31, .ref 32, .ref 33, .int a, .int b, .int c])) := hw.at 0 rfl
  refine gv_S.go rfl ?_
  refine t_X0_walk_0 (t_X0_walk_1 (t_X0_walk_2 g0 rfl (?_)))
  have w1 : wt 27 (coG am lf rg tn al ar (nI 0) b c) (sw.set 27 (.inr (0, [.ref 28, .ref 29, .ref 30, .ref 31, .ref 32, .ref 33, .int (nI 0), .int b, .int c]))) := hw.set 0 _ rfl
  have hsm1 : same 27 7 sw (sw.set 27 (.inr (0, [.ref 28, .ref 29, .ref 30, .ref 31, .ref 32, .ref 33, .int (nI 0), .int b, .int c]))) := same.set 27 _ rfl
  show gv_M ε (d + 2) m_X0_walk sw.length Qs 5 _ _ (sw.set 27 (.inr (0, [.ref 28, .ref 29, .ref 30, .ref 31, .ref 32, .ref 33, .int (nI 0), .int b, .int c]))) 0 0
  generalize sw.set 27 (.inr (0, [.ref 28, .ref 29, .ref 30, .ref 31, .ref 32, .ref 33, .int (nI 0), .int b, .int c])) = sw1 at w1 hsm1 ⊢
  have g1 : sw1[27]? = some (.inr (0, [.ref 28, .ref 29, .ref 30, .ref 31, .ref 32, .ref 33, .int (nI 0), .int b, .int c])) := w1.at 0 rfl
  refine t_X0_walk_5 (t_X0_walk_6 (t_X0_walk_7 g1 rfl (?_)))
  have w2 : wt 27 (coG am lf rg tn al ar (nI 0) (nI 0) c) (sw1.set 27 (.inr (0, [.ref 28, .ref 29, .ref 30, .ref 31, .ref 32, .ref 33, .int (nI 0), .int (nI 0), .int c]))) := w1.set 0 _ rfl
  have hsm2 : same 27 7 sw1 (sw1.set 27 (.inr (0, [.ref 28, .ref 29, .ref 30, .ref 31, .ref 32, .ref 33, .int (nI 0), .int (nI 0), .int c]))) := same.set 27 _ rfl
  show gv_M ε (d + 2) m_X0_walk sw.length Qs 10 _ _ (sw1.set 27 (.inr (0, [.ref 28, .ref 29, .ref 30, .ref 31, .ref 32, .ref 33, .int (nI 0), .int (nI 0), .int c]))) 0 0
  generalize sw1.set 27 (.inr (0, [.ref 28, .ref 29, .ref 30, .ref 31, .ref 32, .ref 33, .int (nI 0), .int (nI 0), .int c])) = sw2 at w2 hsm2 ⊢
  have g2 : sw2[27]? = some (.inr (0, [.ref 28, .ref 29, .ref 30, .ref 31, .ref 32, .ref 33, .int (nI 0), .int (nI 0), .int c])) := w2.at 0 rfl
  refine t_X0_walk_10 (t_X0_walk_11 (t_X0_walk_12 g2 rfl (t_X0_walk_15 (t_X0_walk_16 (?_)))))
  refine loop 40 0 tn _ _ (by decide) (fun j hj => absurd hj (by omega)) ?_ ((hsm1.tr hsm2).tr (same.set 27 _ rfl))
  have e : rkN np 0 = 0 := by
    unfold rkN
    simp [sumN]
  rw [e]
  exact w2.set 0 _ rfl
noncomputable def npS (s : shT) : Nat → Nat := fun l => if l < s.2.2.2.2 then npN (inkN s l) (s.1 1) 8 else 0
noncomputable def loS (s : shT) : Nat → Nat → Int := fun l p => loZ (inkN s l) (s.1 1) (s.1 0) p 192
noncomputable def hiS (s : shT) : Nat → Nat → Int := fun l p => hiZ (inkN s l) (s.1 1) (s.1 0) p 192
theorem npS_le {s : shT} (h : shOk s) (l : Nat) : npS s l ≤ 10 := by
  unfold npS
  have := npN_le (J := inkN s l) (r := s.1 1) 8
  have := h.2.1
  split <;> omega
theorem sp_X0_plan (hc : cls s sw) (hs : scr sw) (hq : ∀ (am lf rg tn al ar : Nat → Int32) (sw' : List va_E), (∀ l, l < 4 → am l = nI (npS s l)) → (∀ i, i < 40 → i % 10 < npS s (i / 10) → tn i = nI (trnI (npS s) (loS s) (hiS s) (rkN (npS s) i))) → wt 27 (coG am lf rg tn al ar (zI (cst (sumN (npS s) 4) (seqZ (npS s) (loS s)) (seqZ (npS s) (hiS s)) (sumN (npS s) 4) 0)) (zI (stZ (seqZ (npS s) (loS s)) (seqZ (npS s) (hiS s)) (sumN (npS s) 4))) (zI (pthZ (sumN (npS s) 4) (seqZ (npS s) (loS s)) (seqZ (npS s) (hiS s)) (sumN (npS s) 4)))) sw' → scr sw' → same 22 12 sw sw' → Qs none sw') : gv_S ε (d + 4) m_X0_plan [.ref 27, .ref 3, .ref 22, .ref 24] sw Qs := by
  obtain ⟨J0, A0, lt0, am0, lf0, rg0, tn, al, ar, a, b, c, hs1, hs2, hs3⟩ := hs.ex
  have hok := hc.2.2
  have hlines := hok.2.2.2.2.1
  have loop : ∀ (m l : Nat) (J lt : Nat → Nat) (A am lf rg : Nat → Int32) (sw1 : List va_E), l + m = 4 → (∀ l', l' < l → am l' = nI (npS s l')) → (∀ i, i < 10 * l → i % 10 < npS s (i / 10) → lf i = zI (loS s (i / 10) (i % 10)) ∧ rg i = zI (hiS s (i / 10) (i % 10))) → wt 22 (stF J) sw1 → wt 24 (dlF A lt) sw1 → wt 27 (coG am lf rg tn al ar a b c) sw1 → same 22 12 sw sw1 → gv_M ε (d + 4) m_X0_plan sw.length Qs 3 [some (.ref 27), some (.ref 3), some (.ref 22), some (.ref 24), some (.int (nI l))] [] sw1 0 0 := by
    intro m
    induction m with
    | zero =>
      intro l J lt A am lf rg sw1 hlm h1 h2 w1 w2 w3 hsm
      have e : l = 4 := by omega
      subst e
      have hco : coOk (npS s) (loS s) (hiS s) am lf rg := by
        refine ⟨npS_le hok, fun l p => ?_, fun l p => ?_, h1, fun i hi hu => h2 i (by omega) hu⟩
        · have := loZ_bd (J := inkN s l) (r := s.1 1) (p := p) hok.1 192
          show -30 ≤ loZ (inkN s l) (s.1 1) (s.1 0) p 192 ∧ loZ (inkN s l) (s.1 1) (s.1 0) p 192 ≤ 30
          omega
        · have := hiZ_bd (J := inkN s l) (r := s.1 1) (p := p) hok.1 192
          show -30 ≤ hiZ (inkN s l) (s.1 1) (s.1 0) p 192 ∧ hiZ (inkN s l) (s.1 1) (s.1 0) p 192 ≤ 30
          omega
      have h0 : sw1[27]? = some (.inr (0, [.ref 28, .ref 29, .ref 30, .ref 31, .ref 32, .ref 33, .int a, .int b, .int c])) := w3.at 0 rfl
      refine t_X0_plan_3 (t_X0_plan_5 (t_X0_plan_6N (by omega) (by omega) (fun h => ?_) (fun h => absurd h (by omega))))
      refine t_X0_plan_41 (t_X0_plan_42 h0 (Nat.le_of_ble_eq_true rfl) (sp_X0_lookAhead w3 hco (fun al' ar' sw2 haft hw2 hsm2 => ?_)))
      have g0 : sw2[27]? = some (.inr (0, [.ref 28, .ref 29, .ref 30, .ref 31, .ref 32, .ref 33, .int a, .int b, .int c])) := hw2.at 0 rfl
      refine t_X0_plan_45 (t_X0_plan_46 g0 (Nat.le_of_ble_eq_true rfl) (sp_X0_walk hw2 hco haft (fun tn' sw3 ht hw3 hsm3 => ?_)))
      refine t_X0_plan_49 (Nat.le_refl _) ?_
      have hsm4 := hsm2.tr hsm3
      exact hq am lf rg tn' al' ar' sw3 h1 ht hw3 (scr.mk (w1.keep hsm4 rfl) (w2.keep hsm4 rfl) hw3) (hsm.tr (hsm4.wide (by decide) (by decide)))
    | succ m ih =>
      intro l J lt A am lf rg sw1 hlm h1 h2 w1 w2 w3 hsm
      have h0 : sw1[27]? = some (.inr (0, [.ref 28, .ref 29, .ref 30, .ref 31, .ref 32, .ref 33, .int a, .int b, .int c])) := w3.at 0 rfl
      have hA : sw1[28]? = some (.inl (0, 4, .inl am)) := w3.at 1 rfl
      refine t_X0_plan_3 (t_X0_plan_5 (t_X0_plan_6N (by omega) (by omega) (fun h => absurd h (by omega)) (fun h => ?_)))
      refine t_X0_plan_9 (t_X0_plan_10 h0 rfl (t_X0_plan_13 (t_X0_plan_15 (t_X0_plan_16 hA l (by omega) rfl (by decide) (?_)))))
      have w4 : wt 27 (coG (upd am l (nI 0)) lf rg tn al ar a b c) (sw1.set 28 (.inl (0, 4, .inl (upd am l (nI 0))))) := w3.set 1 _ rfl
      have hsm4 : same 27 7 sw1 (sw1.set 28 (.inl (0, 4, .inl (upd am l (nI 0))))) := same.set 28 _ rfl
      generalize sw1.set 28 (.inl (0, 4, .inl (upd am l (nI 0)))) = sw2 at w4 hsm4 ⊢
      have hsm5 : same 22 12 sw sw2 := hsm.tr (hsm4.wide (by decide) (by decide))
      have hc2 := hc.keep hsm5
      have k4 : sw2[3]? = some (.inr (4, [.ref (3 + 1), .ref (3 + 2), .ref (3 + 3), .ref (3 + 4), .int (nI s.2.2.2.2)])) := hc2.2.1.at 0 rfl
      have k0 : sw2[27]? = some (.inr (0, [.ref 28, .ref 29, .ref 30, .ref 31, .ref 32, .ref 33, .int a, .int b, .int c])) := w4.at 0 rfl
      refine t_X0_plan_17 (t_X0_plan_18 (t_X0_plan_20 k4 (Nat.le_of_ble_eq_true rfl) (sp_X4_hasLine (nI l) hc2.2.1 hlines (fun j hj e => ?_) (fun h => ?_))))
      · have ej : l = j := nI_inj (by omega) (by omega) e
        subst ej
        refine t_X0_plan_23 (fun h => absurd h (by decide)) (fun _ => ?_)
        refine t_X0_plan_26 (t_X0_plan_27 (t_X0_plan_29 (t_X0_plan_30 (t_X0_plan_31 (t_X0_plan_32 k0 (Nat.le_of_ble_eq_true rfl) (sp_X0_measure l hc2 (w1.keep hsm4 rfl) (w2.keep hsm4 rfl) w4 hj (fun J2 A2 lt2 am2 lf2 rg2 sw3 q1 q2 q3 q4 q5 v1 v2 v3 hsm6 => ?_)))))))
        refine t_X0_plan_35N (t_X0_plan_38 (?_))
        refine ih (l + 1) J2 lt2 A2 am2 lf2 rg2 sw3 (by omega) (fun l' hl' => ?_) (fun i hi hu => ?_) v1 v2 v3 (hsm5.tr hsm6)
        · by_cases z : l' = l
          · subst z
            rw [q1]
            unfold npS
            rw [if_pos hj]
          · rw [q2 l' z, pk_un z]
            exact h1 l' (by omega)
        · rcases Nat.lt_or_ge i (10 * l) with z | z
          · rw [(q5 i (Or.inl z)).1, (q5 i (Or.inl z)).2]
            exact h2 i z hu
          · have e1 : i / 10 = l := by omega
            have e2 : i = 10 * l + i % 10 := by omega
            have a3 := q3 (i % 10) (by omega)
            have a4 := q4 (i % 10) (by omega)
            rw [← e2] at a3 a4
            rw [e1, a3, a4]
            exact ⟨rfl, rfl⟩
      · refine t_X0_plan_23 (fun _ => ?_) (fun h => absurd rfl h)
        refine t_X0_plan_35N (t_X0_plan_38 (?_))
        have hnl : ¬ l < s.2.2.2.2 := fun z => h l z rfl
        refine ih (l + 1) J lt A (upd am l (nI 0)) lf rg sw2 (by omega) (fun l' hl' => ?_) (fun i hi hu => ?_) (w1.keep hsm4 rfl) (w2.keep hsm4 rfl) w4 hsm5
        · by_cases z : l' = l
          · subst z
            rw [pk_us]
            unfold npS
            rw [if_neg hnl]
          · rw [pk_un z]
            exact h1 l' (by omega)
        · rcases Nat.lt_or_ge i (10 * l) with z | z
          · exact h2 i z hu
          · have e1 : i / 10 = l := by omega
            rw [e1] at hu
            unfold npS at hu
            rw [if_neg hnl] at hu
            omega
  refine gv_S.go rfl ?_
  refine t_X0_plan_0 (t_X0_plan_1 (?_))
  exact loop 4 0 J0 lt0 A0 am0 lf0 rg0 sw (by decide) (fun l' hl' => absurd hl' (by omega)) (fun i hi => absurd hi (by omega)) hs1 hs2 hs3 same.rf
end S0
