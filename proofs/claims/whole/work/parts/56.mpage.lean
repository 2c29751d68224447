/-! the model: page -/
section S8
variable {ε : gv_E} {d : Nat} {Qs : Option Value → List va_E → Prop} {r U fk Kp T rd ln nu : Nat → Nat} {kn ua n sk : Nat} {pv ts tk : Int32} {sw sw' : List va_E}
theorem sp_X8_page (hM : mrW r U fk Kp T rd ln nu kn ua n sk pv ts tk sw) (hT : txOk T n) (h0 : ¬ (pAll T n 121 0 0 (begF rd)).1 = true → ∀ sw', moW r U fk Kp T ln nu kn ua n sk sw' → same 44 11 sw sw' → Qs (some (.int (-10 - nI (pAll T n 121 0 0 (begF rd)).2.1))) sw') (h1 : (pAll T n 121 0 0 (begF rd)).1 = true → ∀ r' fk' sw', (∀ k, k < 58 → r' k = (pAll T n 121 0 0 (begF rd)).2.2 k) → fk' 0 = 0 → fk' 1 = 0 → moW (r') U (fk') Kp T ln nu (0) ua (0) (0) sw' → same 44 11 sw sw' → Qs (some (.int (nI (pAll T n 121 0 0 (begF rd)).2.1))) sw') : gv_S ε (d + 6) m_X8_page [.ref 44] sw Qs := by
  have hn := hT.1
  obtain ⟨afs, a8, al, a6, a7, a9, a10, a11, a12, aT, aD⟩ := hM.view
  generalize hY : pAll T n 121 0 0 (begF rd) = Y at h0 h1
  have done : ∀ (q k : Nat) (a2 : Option Value) (rd1 r1 : Nat → Nat) (pv1 ts1 tk1 : Int32) (sw1 : List va_E), Y = (true, k, rd1) → k ≤ 120 → q ≤ 58 → (∀ i, i < 58 - q → r1 i = rd1 i) → mrW r1 U fk Kp T rd1 ln nu kn ua 0 sk pv1 ts1 tk1 sw1 → same 44 11 sw sw1 → gv_M ε (d + 6) m_X8_page sw.length Qs 61 [some (.ref 44), some (.int (nI k)), some (.int (nI (58 - q)))] [] sw1 0 0 := by
    intro q
    induction q with
    | zero =>
      intro k a2 rd1 r1 pv1 ts1 tk1 sw1 hY1 hk hq hr hM1 m1
      have hM1 := hM1.mo
      obtain ⟨yfs, y8, yl, y0, y1, y2, y3, y4, y5, y6, y7, y17, y18, y19, yN, yU, yK, yP, yT, yA, yB⟩ := hM1.view
      refine t_X8_page_61 (t_X8_page_62 (t_X8_page_64N (by omega) (by omega) (fun h => ?_) (fun h => absurd h (by omega))))
      refine t_X8_page_85 (t_X8_page_86 (t_X8_page_87 y8 yl (?_)))
      have hM2 := hM1.f1 y8 0
      have m2 : same 44 11 sw1 _ := same.set 44 (.inr (8, yfs.set 1 (.int (nI 0)))) rfl
      generalize List.set sw1 _ _ = sw2 at hM2 m2 ⊢
      obtain ⟨vfs, v8, vl, v0, v1, v2, v3, v4, v5, v6, v7, v17, v18, v19, vN, vU, vK, vP, vT, vA, vB⟩ := hM2.view
      refine t_X8_page_90 (t_X8_page_91 (t_X8_page_92 v8 vl (?_)))
      have hM3 := hM2.f17 v8 0
      have m3 : same 44 11 sw2 _ := same.set 44 (.inr (8, vfs.set 17 (.int (nI 0)))) rfl
      generalize List.set sw2 _ _ = sw3 at hM3 m3 ⊢
      obtain ⟨ufs, u8, ul, u0, u1, u2, u3, u4, u5, u6, u7, u17, u18, u19, uN, uU, uK, uP, uT, uA, uB⟩ := hM3.view
      refine t_X8_page_95 (t_X8_page_96 u8 u4 (t_X8_page_99 (t_X8_page_100 (t_X8_page_101 uK (vp_in_nI (by decide) (by decide)) (?_)))))
      rw [nar0, nI_clamp (by decide), nI_set]
      have hM4 := hM3.sK (up fk 0 0)
      have m4 : same 44 11 sw3 _ := same.set 47 (.inl (1, 2, .inl (fun i => nI (up fk 0 0 i)))) rfl
      show gv_M ε (d + 6) m_X8_page sw.length Qs 102 _ _ (List.set sw3 47 (.inl (1, 2, .inl (fun i => nI (up fk 0 0 i))))) 0 0
      generalize List.set sw3 _ _ = sw4 at hM4 m4 ⊢
      obtain ⟨wfs, w8, wl, w0, w1, w2, w3, w4, w5, w6, w7, w17, w18, w19, wN, wU, wK, wP, wT, wA, wB⟩ := hM4.view
      refine t_X8_page_102 (t_X8_page_103 w8 w4 (t_X8_page_106 (t_X8_page_107 (t_X8_page_108 wK (vp_in_nI (by decide) (by decide)) (?_)))))
      rw [nar0, nI_clamp (by decide), nI_set]
      refine t_X8_page_109 (t_X8_page_110 ?_)
      have := h1 (by rw [hY1]) r1 (up (up fk 0 0) 1 0) _ (by rw [hY1]; exact fun i hi => hr i (by omega)) rfl rfl (hM4.sK (up (up fk 0 0) 1 0)) ((((m1.tr m2).tr m3).tr m4).tr (same.set 47 _ rfl))
      rw [hY1] at this
      exact this
    | succ q ih =>
      intro k a2 rd1 r1 pv1 ts1 tk1 sw1 hY1 hk hq hr hM1 m1
      have hM1' := hM1.mo
      obtain ⟨yfs, y8, yl, y0, y1, y2, y3, y4, y5, y6, y7, y17, y18, y19, yN, yU, yK, yP, yT, yA, yB⟩ := hM1'.view
      obtain ⟨vfs, v8, vl, v6, v7, v9, v10, v11, v12, vT, vD⟩ := hM1.view
      refine t_X8_page_61 (t_X8_page_62 (t_X8_page_64N (by omega) (by omega) (fun h => absurd h (by omega)) (fun h => ?_)))
      refine t_X8_page_67 (t_X8_page_68 y8 y0 (t_X8_page_71 (t_X8_page_72 (t_X8_page_73 v8 v12 (t_X8_page_76 (t_X8_page_77 vD (58 - (q + 1)) h rfl (by decide) (t_X8_page_78 yN (58 - (q + 1)) h rfl (by decide) (t_X8_page_79N (t_X8_page_82 (?_))))))))))
      rw [nI_set, show 58 - (q + 1) + 1 = 58 - q by omega]
      refine ih k a2 rd1 (up r1 (58 - (q + 1)) (rd1 (58 - (q + 1)))) pv1 ts1 tk1 _ hY1 hk (by omega) (fun i hi => ?_) (hM1.sR _) (m1.tr (same.set 45 _ rfl))
      by_cases e : i = 58 - (q + 1)
      · rw [e, up_at]
      · rw [up_ne e]
        exact hr i (by omega)
  have loop : ∀ (f k p : Nat) (rd1 : Nat → Nat) (ts1 tk1 : Int32) (sw1 : List va_E), f + k = 121 → k ≤ p → p ≤ n → Y = pAll T n f k p rd1 → rdB rd1 → mrW r U fk Kp T rd1 ln nu kn ua n sk (nI (bl T n p)) ts1 tk1 sw1 → same 44 11 sw sw1 → gv_M ε (d + 6) m_X8_page sw.length Qs 18 [some (.ref 44), some (.int (nI k)), none] [] sw1 0 0 := by
    intro f
    induction f with
    | zero => intro k p rd1 ts1 tk1 sw1 hf hkp hpn; omega
    | succ f ih =>
      intro k p rd1 ts1 tk1 sw1 hf hkp hpn hY1 hB hM1 m1
      obtain ⟨hb1, hb2, hb3⟩ := bl_ok (T := T) hpn
      have hce := tkC_end hpn hT.2
      obtain ⟨yfs, y8, yl, y6, y7, y9, y10, y11, y12, yT, yD⟩ := hM1.view
      rw [pAll_s] at hY1
      refine t_X8_page_18 (t_X8_page_19 y8 y9 (t_X8_page_22 (t_X8_page_23 y8 y6 (t_X8_page_26N (by omega) (by omega) (fun h => ?_) (fun h => ?_)))))
      · rw [if_pos (hce.mpr (by omega))] at hY1
        refine t_X8_page_54 (t_X8_page_55 (t_X8_page_56 y8 yl (t_X8_page_59 (t_X8_page_60 (?_)))))
        exact done 58 k none rd1 r _ _ _ _ hY1 (by omega) (Nat.le_refl _) (fun i hi => absurd hi (by omega)) (hM1.f6 y8 0) (m1.tr (same.set 44 _ rfl))
      · have hne : ¬ tkC T n p = 3000 := fun e => by
          have := hce.mp e
          omega
        rw [if_neg hne] at hY1
        have hin := pItem_in (T := T) (rd := rd1) hpn
        have hprog : p < tkN T n p := (tkN_ok hpn).2.2 h
        have hBX := pItem_B (T := T) (n := n) (p := p) hB
        refine t_X8_page_29 (t_X8_page_30 y8 (Nat.le_of_ble_eq_true rfl) (sp_X8_readsItem (rd := rd1) (bl T n p) hM1 rfl hT hb2 hB (fun tk2 sw2 hM2 m2 => ?_)))
        rw [pItem_bl hpn] at hM2 ⊢
        generalize pItem T n p rd1 = X at hY1 hin hBX hM2 ⊢
        obtain ⟨vfs, v8, vl, v6, v7, v9, v10, v11, v12, vT, vD⟩ := hM2.view
        by_cases z : X.1 = true
        · rw [if_pos z] at hY1 ⊢
          refine t_X8_page_33 (fun _ => ?_) (fun h => absurd h (by decide))
          refine t_X8_page_44N (t_X8_page_47 (t_X8_page_48 v8 (Nat.le_of_ble_eq_true rfl) (sp_X8_blanks X.2.2.1 hM2 rfl hT hin.2.1 (fun sw3 hM3 m3 => ?_))))
          refine t_X8_page_51 (?_)
          exact ih (k + 1) X.2.2.1 X.2.2.2 _ _ sw3 (by omega) (Nat.le_trans (by omega) hin.1) hin.2.1 hY1 hBX hM3 ((m1.tr m2).tr m3)
        · rw [if_neg z] at hY1 ⊢
          refine t_X8_page_33 (fun h => absurd rfl h) (fun _ => ?_)
          refine t_X8_page_36 (t_X8_page_38 (t_X8_page_39 v8 v10 (t_X8_page_42 (t_X8_page_43 ?_))))
          have := h0 (by rw [hY1]; exact Bool.false_ne_true) sw2 hM2.mo (m1.tr m2)
          rw [hY1] at this
          exact this
  refine gv_S.go rfl ?_
  refine t_X8_page_0 (t_X8_page_1 a8 a12 (t_X8_page_4 (Nat.le_of_ble_eq_true rfl) (sp_X8_begins aD (fun sw1 hc1 m1 => ?_))))
  have hM1 := hM.put m1 hc1
  have m1' : same 44 11 sw sw1 := m1.wide (by decide) (by decide)
  obtain ⟨yfs, y8, yl, y6, y7, y9, y10, y11, y12, yT, yD⟩ := hM1.view
  refine t_X8_page_7 (t_X8_page_8 (t_X8_page_9 y8 yl (?_)))
  have hM2 := hM1.f8 y8 (nI 0)
  have m2 : same 44 11 sw1 _ := same.set 44 (.inr (8, yfs.set 8 (.int (nI 0)))) rfl
  generalize List.set sw1 _ _ = sw2 at hM2 m2 ⊢
  obtain ⟨vfs, v8, vl, v6, v7, v9, v10, v11, v12, vT, vD⟩ := hM2.view
  refine t_X8_page_12 (t_X8_page_13 (t_X8_page_14 (t_X8_page_15 v8 (Nat.le_of_ble_eq_true rfl) (sp_X8_blanks 0 hM2 rfl hT (Nat.zero_le _) (fun sw3 hM3 m3 => ?_)))))
  exact loop 121 0 0 (begF rd) _ _ sw3 (by decide) (Nat.le_refl _) (Nat.zero_le _) hY.symm (begF_B rd) hM3 ((m1'.tr m2).tr m3)
end S8
