/-! the model reads: tokens -/
def mrW (r U fk Kp T rd ln nu : Nat → Nat) (kn ua n sk : Nat) (pv ts tk : Int32) (sw : List va_E) : Prop := ∃ v ch A lz hz, wt 44 (moF v ch A lz hz) sw ∧ A 0 = r ∧ A 1 = U ∧ A 2 = fk ∧ A 3 = Kp ∧ A 4 = T ∧ A 5 = rd ∧ A 6 = ln ∧ A 7 = nu ∧ v 0 = nI kn ∧ v 1 = nI ua ∧ v 2 = nI n ∧ v 3 = pv ∧ v 4 = ts ∧ v 5 = tk ∧ v 8 = nI sk
theorem moW.mr {r U fk Kp T ln nu : Nat → Nat} {kn ua n sk : Nat} {sw : List va_E} (h : moW r U fk Kp T ln nu kn ua n sk sw) : ∃ (v5 : Nat → Nat) (pv ts tk : Int32), mrW r U fk Kp T v5 ln nu kn ua n sk pv ts tk sw := by
  obtain ⟨v, ch, A, lz, hz, hw, a0, a1, a2, a3, a4, a6, a7, e0, e1, e2, e8⟩ := h
  exact ⟨A 5, v 3, v 4, v 5, v, ch, A, lz, hz, hw, a0, a1, a2, a3, a4, rfl, a6, a7, e0, e1, e2, rfl, rfl, rfl, e8⟩
section W
variable {r U fk Kp T rd ln nu : Nat → Nat} {kn ua n sk : Nat} {pv ts tk : Int32} {sw : List va_E}
theorem mrW.mo (h : mrW r U fk Kp T rd ln nu kn ua n sk pv ts tk sw) : moW r U fk Kp T ln nu kn ua n sk sw := by
  obtain ⟨v, ch, A, lz, hz, hw, a0, a1, a2, a3, a4, a5, a6, a7, e0, e1, e2, e3, e4, e5, e8⟩ := h
  exact ⟨v, ch, A, lz, hz, hw, a0, a1, a2, a3, a4, a6, a7, e0, e1, e2, e8⟩
theorem mrW.view (h : mrW r U fk Kp T rd ln nu kn ua n sk pv ts tk sw) : ∃ fs, sw[44]? = some (.inr (8, fs)) ∧ fs.length = 20 ∧ fs[6]? = some (.int (nI n)) ∧ fs[7]? = some (.ref 49) ∧ fs[8]? = some (.int pv) ∧ fs[9]? = some (.int ts) ∧ fs[10]? = some (.int tk) ∧ fs[11]? = some (.ref 50) ∧ sw[49]? = some (.inl (0, 120, .inl (fun i => nI (T i)))) ∧ sw[50]? = some (.inl (0, 58, .inl (fun i => nI (rd i)))) := by
  obtain ⟨v, ch, A, lz, hz, hw, rfl, rfl, rfl, rfl, rfl, rfl, rfl, rfl, e0, e1, e2, rfl, rfl, rfl, e8⟩ := h
  refine ⟨moO v ch, hw.at 0 rfl, rfl, ?_, rfl, rfl, rfl, rfl, rfl, hw.at 5 rfl, hw.at 6 rfl⟩
  show some (Value.int (v 2)) = _
  rw [e2]
theorem mrW.sD (h : mrW r U fk Kp T rd ln nu kn ua n sk pv ts tk sw) (rd' : Nat → Nat) : mrW r U fk Kp T rd' ln nu kn ua n sk pv ts tk (sw.set 50 (.inl (0, 58, .inl (fun i => nI (rd' i))))) := by
  obtain ⟨v, ch, A, lz, hz, hw, rfl, rfl, rfl, rfl, rfl, rfl, rfl, rfl, e0, e1, e2, e3, e4, e5, e8⟩ := h
  exact ⟨v, ch, upA A 5 rd', lz, hz, hw.set 6 _ rfl, rfl, rfl, rfl, rfl, rfl, rfl, rfl, rfl, e0, e1, e2, e3, e4, e5, e8⟩
theorem mrW.f8 (h : mrW r U fk Kp T rd ln nu kn ua n sk pv ts tk sw) {fs : List Value} (h8 : sw[44]? = some (.inr (8, fs))) (z : Int32) : mrW r U fk Kp T rd ln nu kn ua n sk z ts tk (sw.set 44 (.inr (8, fs.set 8 (.int z)))) := by
  obtain ⟨v, ch, A, lz, hz, hw, rfl, rfl, rfl, rfl, rfl, rfl, rfl, rfl, e0, e1, e2, e3, e4, e5, e8⟩ := h
  have e := moW.fs_eq hw h8
  subst e
  exact ⟨upd v 3 z, ch, A, lz, hz, hw.set 0 _ rfl, rfl, rfl, rfl, rfl, rfl, rfl, rfl, rfl, e0, e1, e2, rfl, e4, e5, e8⟩
theorem mrW.f9 (h : mrW r U fk Kp T rd ln nu kn ua n sk pv ts tk sw) {fs : List Value} (h8 : sw[44]? = some (.inr (8, fs))) (z : Int32) : mrW r U fk Kp T rd ln nu kn ua n sk pv z tk (sw.set 44 (.inr (8, fs.set 9 (.int z)))) := by
  obtain ⟨v, ch, A, lz, hz, hw, rfl, rfl, rfl, rfl, rfl, rfl, rfl, rfl, e0, e1, e2, e3, e4, e5, e8⟩ := h
  have e := moW.fs_eq hw h8
  subst e
  exact ⟨upd v 4 z, ch, A, lz, hz, hw.set 0 _ rfl, rfl, rfl, rfl, rfl, rfl, rfl, rfl, rfl, e0, e1, e2, e3, rfl, e5, e8⟩
theorem mrW.f10 (h : mrW r U fk Kp T rd ln nu kn ua n sk pv ts tk sw) {fs : List Value} (h8 : sw[44]? = some (.inr (8, fs))) (z : Int32) : mrW r U fk Kp T rd ln nu kn ua n sk pv ts z (sw.set 44 (.inr (8, fs.set 10 (.int z)))) := by
  obtain ⟨v, ch, A, lz, hz, hw, rfl, rfl, rfl, rfl, rfl, rfl, rfl, rfl, e0, e1, e2, e3, e4, e5, e8⟩ := h
  have e := moW.fs_eq hw h8
  subst e
  exact ⟨upd v 5 z, ch, A, lz, hz, hw.set 0 _ rfl, rfl, rfl, rfl, rfl, rfl, rfl, rfl, rfl, e0, e1, e2, e3, e4, rfl, e8⟩
end W
def tkI (c : Nat) : Int32 := if c = 3000 then -1 else nI c
section S8
variable {ε : gv_E} {d : Nat} {Qs : Option Value → List va_E → Prop} {r U fk Kp T rd ln nu : Nat → Nat} {kn ua n sk : Nat} {pv ts tk : Int32} {sw : List va_E}
theorem sp_X8_isFigure (q : Nat) (hM : mrW r U fk Kp T rd ln nu kn ua n sk pv ts tk sw) (hT : txOk T n) (hq : q ≤ n) (h1 : Qs (some (.int (nI (if q < n ∧ dig (T q) then 1 else 0)))) sw) : gv_S ε (d + 1) m_X8_isFigure [.ref 44, .int (nI q)] sw Qs := by
  obtain ⟨afs, a8, al, a6, a7, a9, a10, a11, a12, aT, aD⟩ := hM.view
  have hn := hT.1
  refine gv_S.go rfl ?_
  refine t_X8_isFigure_0 (t_X8_isFigure_1 (t_X8_isFigure_2 a8 a6 (t_X8_isFigure_5N (by omega) (by omega) (fun h => ?_) (fun h => ?_))))
  · refine t_X8_isFigure_28 (t_X8_isFigure_29 rfl ?_)
    rw [if_neg (fun z => by omega)] at h1
    exact h1
  · have h255 := hT.2 q h
    refine t_X8_isFigure_8 (t_X8_isFigure_9 a8 a7 (t_X8_isFigure_12 (t_X8_isFigure_13 aT q (by omega) rfl (by decide) (t_X8_isFigure_14 (t_X8_isFigure_16 (t_X8_isFigure_18 (Nat.le_of_ble_eq_true rfl) (sp_X8_in _ _ _ (fun g1 g2 => ?_) (fun g => ?_))))))))
    · rw [nI_leI (by omega) (by omega)] at g1 g2
      refine t_X8_isFigure_21 (fun h => absurd h (by decide)) (fun _ => ?_)
      refine t_X8_isFigure_24 (t_X8_isFigure_25 (t_X8_isFigure_29 rfl ?_))
      rw [if_pos ⟨h, g1, g2⟩] at h1
      exact h1
    · rw [nI_leI (by omega) (by omega), nI_leI (by omega) (by omega)] at g
      refine t_X8_isFigure_21 (fun _ => ?_) (fun h => absurd rfl h)
      refine t_X8_isFigure_28 (t_X8_isFigure_29 rfl ?_)
      rw [if_neg (fun z => g z.2)] at h1
      exact h1
theorem sp_X8_blanks (p : Nat) (hM : mrW r U fk Kp T rd ln nu kn ua n sk pv ts tk sw) (hpv : pv = nI p) (hT : txOk T n) (hp : p ≤ n) (h1 : ∀ sw', mrW r U fk Kp T rd ln nu kn ua n sk (nI (bl T n p)) ts tk sw' → same 44 11 sw sw' → Qs none sw') : gv_S ε d m_X8_blanks [.ref 44] sw Qs := by
  have hn := hT.1
  have loop : ∀ (m q : Nat) (sw1 : List va_E), q + m = n → bl T n p = bl T n q → mrW r U fk Kp T rd ln nu kn ua n sk (nI q) ts tk sw1 → same 44 11 sw sw1 → gv_M ε d m_X8_blanks sw.length Qs 0 [some (.ref 44)] [] sw1 0 0 := by
    intro m
    induction m with
    | zero =>
      intro q sw1 hq e hM1 m1
      obtain ⟨afs, a8, al, a6, a7, a9, a10, a11, a12, aT, aD⟩ := hM1.view
      refine t_X8_blanks_0 (t_X8_blanks_1 a8 a9 (t_X8_blanks_4 (t_X8_blanks_5 a8 a6 (t_X8_blanks_8N (by omega) (by omega) (fun h => ?_) (fun h => absurd h (by omega))))))
      refine t_X8_blanks_38 (Nat.le_refl _) ?_
      rw [e, bl_end h] at h1
      exact h1 sw1 hM1 m1
    | succ m ih =>
      intro q sw1 hq e hM1 m1
      obtain ⟨afs, a8, al, a6, a7, a9, a10, a11, a12, aT, aD⟩ := hM1.view
      have h255 := hT.2 q (by omega)
      refine t_X8_blanks_0 (t_X8_blanks_1 a8 a9 (t_X8_blanks_4 (t_X8_blanks_5 a8 a6 (t_X8_blanks_8N (by omega) (by omega) (fun h => absurd h (by omega)) (fun h => ?_)))))
      refine t_X8_blanks_11 (t_X8_blanks_12 a8 a7 (t_X8_blanks_15 (t_X8_blanks_16 a8 a9 (t_X8_blanks_19 aT q (by omega) rfl (by decide) (t_X8_blanks_20 (t_X8_blanks_22N (by omega) (by omega) (fun g => ?_) (fun g => ?_)))))))
      · refine t_X8_blanks_38 (Nat.le_refl _) ?_
        rw [e, bl_no h g] at h1
        exact h1 sw1 hM1 m1
      · refine t_X8_blanks_25 (t_X8_blanks_26 rfl (t_X8_blanks_27 a8 a9 (t_X8_blanks_30 (t_X8_blanks_31N (t_X8_blanks_32 a8 al (t_X8_blanks_35 (?_)))))))
        exact ih (q + 1) _ (by omega) (e.trans (bl_yes h g)) (hM1.f8 a8 (nI (q + 1))) (m1.tr (same.set 44 _ rfl))
  subst hpv
  refine gv_S.go rfl ?_
  exact loop (n - p) p sw (by omega) rfl hM same.rf
theorem sp_X8_next (p : Nat) (hM : mrW r U fk Kp T rd ln nu kn ua n sk pv ts tk sw) (hpv : pv = nI p) (hT : txOk T n) (hp : p ≤ n) (h1 : ∀ sw', mrW r U fk Kp T rd ln nu kn ua n sk (nI (tkN T n p)) (nI (bl T n p)) (tkI (tkC T n p)) sw' → same 44 11 sw sw' → Qs none sw') : gv_S ε (d + 2) m_X8_next [.ref 44] sw Qs := by
  obtain ⟨afs, a8, al, a6, a7, a9, a10, a11, a12, aT, aD⟩ := hM.view
  have hn := hT.1
  obtain ⟨hb1, hb2, hb3⟩ := bl_ok (T := T) hp
  refine gv_S.go rfl ?_
  refine t_X8_next_0 (t_X8_next_1 a8 (Nat.le_of_ble_eq_true rfl) (sp_X8_blanks p hM hpv hT hp (fun sw1 hM1 m1 => ?_)))
  obtain ⟨yfs, y8, yl, y6, y7, y9, y10, y11, y12, yT, yD⟩ := hM1.view
  refine t_X8_next_4 (t_X8_next_5 (t_X8_next_6 y8 y9 (t_X8_next_9 y8 yl (?_))))
  have hM2 := hM1.f9 y8 (nI (bl T n p))
  have m2 : same 44 11 sw1 _ := same.set 44 (.inr (8, yfs.set 9 (.int (nI (bl T n p))))) rfl
  generalize List.set sw1 _ _ = sw2 at hM2 m2 ⊢
  have m02 := m1.tr m2
  obtain ⟨cfs, c8, cl, c6, c7, c9, c10, c11, c12, cT, cD⟩ := hM2.view
  refine t_X8_next_12 (t_X8_next_13 c8 c9 (t_X8_next_16 (t_X8_next_17 c8 c6 (t_X8_next_20N (by omega) (by omega) (fun h => ?_) (fun h => ?_)))))
  · have hlt : bl T n p < n := by omega
    have h255 := hT.2 _ hlt
    refine t_X8_next_29 (t_X8_next_30 (t_X8_next_31 c8 c9 (t_X8_next_34 c8 (Nat.le_of_ble_eq_true rfl) (sp_X8_isFigure (bl T n p) hM2 hT hb2 ?_))))
    by_cases hd : dig (T (bl T n p))
    · rw [if_pos ⟨hlt, hd⟩]
      obtain ⟨hdc, hdd⟩ := dc_ok (T := T) hb2
      rw [(tk_num hlt hd).1, (tk_num hlt hd).2] at h1
      have hbd := nuC_bd (T := T) hb2
      have hiff := wc_wrg (T := T) hb2
      generalize bl T n p = q at *
      have hwl := wc_le (T := T) (q := q) (k := dc T n q) hdd
      have done : ∀ (a2 : Option Value) (sw3 : List va_E), mrW r U fk Kp T rd ln nu kn ua n sk (nI (q + dc T n q)) (nI q) tk sw3 → same 44 11 sw sw3 → gv_M ε (d + 2) m_X8_next sw.length Qs 127 [some (.ref 44), some (.int (nI (wc T q (dc T n q)))), a2] [] sw3 0 0 := by
        intro a2 sw3 hM3 m3
        obtain ⟨efs, e8, el, e6, e7, e9, e10, e11, e12, eT, eD⟩ := hM3.view
        have bad : wrg T n q → gv_M ε (d + 2) m_X8_next sw.length Qs 161 [some (.ref 44), some (.int (nI (wc T q (dc T n q)))), a2] [] sw3 0 0 := by
          intro hw
          have e2 := hbd.2.2.mp hw
          refine t_X8_next_161 (t_X8_next_162 (t_X8_next_166 (t_X8_next_167 (t_X8_next_168 (t_X8_next_169 (fun h => absurd h (by decide)) (fun _ => ?_))))))
          refine t_X8_next_172 (t_X8_next_175 (t_X8_next_183 e8 el (t_X8_next_186 (Nat.le_refl _) ?_)))
          rw [e2] at h1
          exact h1 _ (hM3.f10 e8 (nI 2000)) (m3.tr (same.set 44 _ rfl))
        have good : ¬ wrg T n q → gv_M ε (d + 2) m_X8_next sw.length Qs 165 [some (.ref 44), some (.int (nI (wc T q (dc T n q)))), a2] [] sw3 0 0 := by
          intro hw
          have hlt : nuC T n q < 2000 := by
            have : nuC T n q ≠ 2000 := fun e => hw (hbd.2.2.mpr e)
            omega
          have hk3 : dc T n q ≤ 3 := by
            have hw : ¬ (3 < dc T n q ∨ (T q = 48 ∧ 1 < dc T n q)) := hw
            omega
          have ev : 1000 + wc T q (dc T n q) = nuC T n q := by
            unfold nuC
            rw [if_neg hw, wc_nv _ hk3 hdd]
          have et : tkI (nuC T n q) = nI (nuC T n q) := if_neg (by omega)
          refine t_X8_next_165 (t_X8_next_166 (t_X8_next_167 (t_X8_next_168 (t_X8_next_169 (fun _ => ?_) (fun h => absurd rfl h)))))
          refine t_X8_next_178 (t_X8_next_181 (t_X8_next_182N (t_X8_next_183 e8 el (t_X8_next_186 (Nat.le_refl _) ?_))))
          rw [ev]
          rw [et] at h1
          exact h1 _ (hM3.f10 e8 (nI (nuC T n q))) (m3.tr (same.set 44 _ rfl))
        refine t_X8_next_127 (t_X8_next_128 (t_X8_next_131N (by omega) (by omega) (fun h => ?_) (fun h => ?_)))
        · exact bad (hiff.mp (Or.inl h))
        · refine t_X8_next_134 (t_X8_next_135 e8 e7 (t_X8_next_138 (t_X8_next_139 e8 e10 (t_X8_next_142 eT q (by omega) rfl (by decide) (t_X8_next_143 (t_X8_next_145N (by omega) (by omega) (fun g => ?_) (fun g => ?_)))))))
          · refine good (fun y => ?_)
            rcases hiff.mpr y with z | z
            · exact h z
            · exact g z.1
          · refine t_X8_next_148 (t_X8_next_149 e8 e9 (t_X8_next_152 (t_X8_next_153 e8 e10 (t_X8_next_156N (by omega) (t_X8_next_157 (t_X8_next_158N (by omega) (by omega) (fun k => ?_) (fun k => ?_)))))))
            · refine good (fun y => ?_)
              rcases hiff.mpr y with z | z
              · exact h z
              · omega
            · exact bad (hiff.mp (Or.inr ⟨g, by omega⟩))
      have loop : ∀ (m j : Nat) (sw3 : List va_E), j + m = dc T n q → dc T n q = j + dc T n (q + j) → mrW r U fk Kp T rd ln nu kn ua n sk (nI (q + j)) (nI q) tk sw3 → same 44 11 sw sw3 → gv_M ε (d + 2) m_X8_next sw.length Qs 66 [some (.ref 44), some (.int (nI (wc T q j))), none] [] sw3 0 0 := by
        intro m
        induction m with
        | zero =>
          intro j sw3 hj hdj hM3 m3
          obtain ⟨efs, e8, el, e6, e7, e9, e10, e11, e12, eT, eD⟩ := hM3.view
          have ej : j = dc T n q := by omega
          refine t_X8_next_66 (t_X8_next_67 (t_X8_next_68 e8 e9 (t_X8_next_71 e8 (Nat.le_of_ble_eq_true rfl) (sp_X8_isFigure (q + j) hM3 hT (by omega) ?_))))
          rw [if_neg (fun y => by
            have := dc_yes y.1 y.2
            omega)]
          refine t_X8_next_74 (fun _ => ?_) (fun h => absurd rfl h)
          subst ej
          exact done _ sw3 hM3 m3
        | succ m ih =>
          intro j sw3 hj hdj hM3 m3
          obtain ⟨efs, e8, el, e6, e7, e9, e10, e11, e12, eT, eD⟩ := hM3.view
          have hdg := hdd j (by omega)
          have hlt : q + j < n := by omega
          have h255 := hT.2 (q + j) hlt
          have hwj := wc_le (T := T) (q := q) (k := j) (fun i hi => hdd i (by omega))
          have hws := wc_s T q j
          have hstep : dc T n q = (j + 1) + dc T n (q + (j + 1)) := by
            have := dc_yes hlt hdg
            rw [← Nat.add_assoc q j 1]
            omega
          have fin : ∀ w, w = wc T q (j + 1) → gv_M ε (d + 2) m_X8_next sw.length Qs 113 [some (.ref 44), some (.int (nI (wc T q j))), none] [.int (nI w)] sw3 0 0 := by
            intro w hw
            subst hw
            refine t_X8_next_113 (t_X8_next_114 (t_X8_next_115 rfl (t_X8_next_116 e8 e9 (t_X8_next_119 (t_X8_next_120N (t_X8_next_121 e8 el (t_X8_next_124 (?_))))))))
            exact ih (j + 1) _ (by omega) hstep (hM3.f8 e8 (nI (q + (j + 1)))) (m3.tr (same.set 44 _ rfl))
          refine t_X8_next_66 (t_X8_next_67 (t_X8_next_68 e8 e9 (t_X8_next_71 e8 (Nat.le_of_ble_eq_true rfl) (sp_X8_isFigure (q + j) hM3 hT (by omega) ?_))))
          rw [if_pos ⟨hlt, hdg⟩]
          refine t_X8_next_74 (fun h => absurd h (by decide)) (fun _ => ?_)
          refine t_X8_next_77 (t_X8_next_78 e8 e9 (t_X8_next_81 (t_X8_next_82 e8 e10 (t_X8_next_85N (by omega) (?_)))))
          rw [Nat.add_sub_cancel_left]
          refine t_X8_next_86 (t_X8_next_87N (by omega) (by omega) (fun g => ?_) (fun g => ?_))
          · refine t_X8_next_110 (?_)
            exact fin 1000 (by rw [hws, if_neg (by omega)])
          · refine t_X8_next_90 (t_X8_next_92 (t_X8_next_93N (t_X8_next_94 (t_X8_next_95 e8 e7 (t_X8_next_98 (t_X8_next_99 e8 e9 (t_X8_next_102 eT (q + j) (by omega) rfl (by decide) (t_X8_next_103N (t_X8_next_104 (t_X8_next_106N (by omega) (t_X8_next_107 (?_))))))))))))
            exact fin _ (by rw [hws, if_pos g])
      refine t_X8_next_37 (fun _ => ?_) (fun h => absurd h (by decide))
      refine t_X8_next_64 (t_X8_next_65 (?_))
      exact loop (dc T n q) 0 sw2 (by omega) (by rw [Nat.add_zero, Nat.zero_add]) hM2 m02
    · rw [if_neg (fun z => hd z.2)]
      rw [(tk_let hlt hd).1, (tk_let hlt hd).2] at h1
      have et : tkI (T (bl T n p)) = nI (T (bl T n p)) := if_neg (by omega)
      rw [et] at h1
      refine t_X8_next_37 (fun h => absurd rfl h) (fun _ => ?_)
      refine t_X8_next_40 (t_X8_next_41 (t_X8_next_42 c8 c7 (t_X8_next_45 (t_X8_next_46 c8 c9 (t_X8_next_49 cT (bl T n p) (by omega) rfl (by decide) (t_X8_next_50 c8 cl (?_)))))))
      have hM3 := hM2.f10 c8 (nI (T (bl T n p)))
      have m3 : same 44 11 sw2 _ := same.set 44 (.inr (8, cfs.set 10 (.int (nI (T (bl T n p)))))) rfl
      generalize List.set sw2 _ _ = sw3 at hM3 m3 ⊢
      obtain ⟨efs, e8, el, e6, e7, e9, e10, e11, e12, eT, eD⟩ := hM3.view
      refine t_X8_next_53 (t_X8_next_54 rfl (t_X8_next_55 e8 e9 (t_X8_next_58 (t_X8_next_59N (t_X8_next_60 e8 el (t_X8_next_63 (Nat.le_refl _) ?_))))))
      exact h1 _ (hM3.f8 e8 (nI (bl T n p + 1))) ((m02.tr m3).tr (same.set 44 _ rfl))
  · rw [(tk_fin (by omega)).1, (tk_fin (by omega)).2] at h1
    refine t_X8_next_23 (t_X8_next_24 (t_X8_next_25 c8 cl (t_X8_next_28 (Nat.le_refl _) ?_)))
    exact h1 _ (hM2.f10 c8 (-1)) (m02.tr (same.set 44 _ rfl))
end S8
