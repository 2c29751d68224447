/-! the law's cases (printed by gen_law.py) -/
theorem ink4 {s : shT} {r : Nat → Nat} (h : Rel s r) (o : shOk s) {l : Nat} (hl : l < 4) : ∀ c, c < 24 → inkN s l c = inkR r l c := by
  intro c hc
  by_cases q : l < s.2.2.2.2
  · exact h.ink o q hc
  · unfold inkN inkR
    rw [if_neg (fun z => q z.1), if_neg]
    intro z
    have := h.2.2.2.1 l hl
    rw [if_neg q] at this
    omega
theorem npS_eq {s : shT} {r : Nat → Nat} (h : Rel s r) (o : shOk s) : npS s = npR r := by
  funext l
  unfold npS npR
  have e21 := h.2.2.1
  have o5 := o.2.2.2.2.1
  rw [e21, h.1 1 (by decide)]
  by_cases q : l < s.2.2.2.2
  · rw [if_pos q, if_pos q]
    exact npN_cong (ink4 h o (by omega)) 8
  · rw [if_neg q, if_neg q]
theorem loS_eq {s : shT} {r : Nat → Nat} (h : Rel s r) (o : shOk s) {l : Nat} (hl : l < 4) (p : Nat) : loS s l p = loR r l p := by
  unfold loS loR
  rw [h.1 1 (by decide), h.1 0 (by decide)]
  exact loZ_cong (ink4 h o hl) _
theorem hiS_eq {s : shT} {r : Nat → Nat} (h : Rel s r) (o : shOk s) {l : Nat} (hl : l < 4) (p : Nat) : hiS s l p = hiR r l p := by
  unfold hiS hiR
  rw [h.1 1 (by decide), h.1 0 (by decide)]
  exact hiZ_cong (ink4 h o hl) _
theorem seq_eq {np : Nat → Nat} {f g : Nat → Nat → Int} (h : ∀ l, l < 4 → ∀ p, f l p = g l p) : seqZ np f = seqZ np g := by
  funext k
  unfold seqZ
  rw [h 0 (by decide), h 1 (by decide), h 2 (by decide), h 3 (by decide)]
theorem trn_eq {s : shT} {r : Nat → Nat} (h : Rel s r) (o : shOk s) (k : Nat) : trnI (npS s) (loS s) (hiS s) k = trnI (npR r) (loR r) (hiR r) k := by
  unfold trnI
  rw [npS_eq h o, seq_eq (fun l hl p => loS_eq h o hl p), seq_eq (fun l hl p => hiS_eq h o hl p)]
theorem way_eq {s : shT} {r : Nat → Nat} (h : Rel s r) (o : shOk s) (w : Nat) : wayZ (npS s) (loS s) (hiS s) w = wayZ (npR r) (loR r) (hiR r) w := by
  unfold wayZ
  rw [npS_eq h o, seq_eq (fun l hl p => loS_eq h o hl p), seq_eq (fun l hl p => hiS_eq h o hl p)]
theorem ct_eq {s : shT} {r : Nat → Nat} (h : Rel s r) (o : shOk s) (kn sk n j : Nat) : ctN s kn sk n j = ctR r kn sk n j := by
  have e21 := h.2.2.1
  have o5 := o.2.2.2.2.1
  unfold ctN ctR
  match j with
  | 0 => exact e21.symm
  | 1 =>
    show sumN _ _ = sumN _ _
    rw [e21]
    exact sumN_cong (fun l hl => totN_congr (ink4 h o (by omega)))
  | 2 =>
    show sumN _ _ = sumN _ _
    rw [e21]
    refine sumN_cong (fun l hl => ?_)
    show npN _ _ _ = npN _ _ _
    rw [h.1 1 (by decide)]
    exact npN_cong (ink4 h o (by omega)) 8
  | 3 => exact (h.1 0 (by decide)).symm
  | 4 => exact (h.1 1 (by decide)).symm
  | 5 => exact (h.1 2 (by decide)).symm
  | 6 => rfl
  | 7 => rfl
  | k + 8 => rfl
theorem up_back {r : Nat → Nat} {j v w : Nat} (h : v = r j) : ∀ i, r i = up (up r j w) j v i := by
  intro i
  by_cases e : i = j
  · rw [e, up_at, h]
  · rw [up_ne e, up_ne e]
theorem tyR_old {r : Nat → Nat} {l g : Nat} (h : l ≠ r 21) : tyR r l g = apR r l g := by
  unfold tyR apR
  have : up r 21 (if l = r 21 then l + 1 else r 21) = r := by
    rw [if_neg h]
    funext i
    by_cases e : i = 21
    · rw [e, up_at]
    · rw [up_ne e]
  rw [this]
section SPW
variable {ε : gv_E} {d : Nat} {Qs : Option Value → List va_E → Prop} {r U fk Kp T ln nu : Nat → Nat} {kn ua n sk : Nat} {sw : List va_E}
theorem spw_unseen (hM : moW r U fk Kp T ln nu kn ua n sk sw) (hr : roOk r) (hS : siOk sk ln nu) (hq : Qs (some (.int (nI (unV (inkR r) (r 21) ln nu sk)))) sw) : gv_S ε (d + 4) m_X8_unseen [.ref 44] sw Qs := by
  obtain ⟨v, ch, A, lz, hz, hw, rfl, rfl, rfl, rfl, rfl, rfl, rfl, e0, e1, e2, e8⟩ := hM
  exact sp_X8_unseen hw hr e8 hS hq
theorem spw_ask (hM : moW r U fk Kp T ln nu kn ua n sk sw) (hr : roOk r) (hS : siOk sk ln nu) (h0 : popN (unV (inkR r) (r 21) ln nu sk) < 2 → Qs (some (.int (-9))) sw) (h1 : ¬ popN (unV (inkR r) (r 21) ln nu sk) < 2 → ∀ m a, fMax (fun l => unlN (inkR r l) (unV (inkR r) (r 21) ln nu sk)) (r 21) m a → Qs (some (.int (if m = 0 then -9 else nI a))) sw) : gv_S ε (d + 4) m_X8_ask [.ref 44] sw Qs := by
  obtain ⟨v, ch, A, lz, hz, hw, rfl, rfl, rfl, rfl, rfl, rfl, rfl, e0, e1, e2, e8⟩ := hM
  exact sp_X8_ask hw hr e8 hS h0 h1
theorem spw_goes (x y : Int32) (hM : moW r U fk Kp T ln nu kn ua n sk sw) (hr : roOk r) (h1 : ∀ l p, l < r 21 → p < 2 ^ 31 → x = nI l → y = nI p → ∀ sw', moW r U fk Kp T ln nu kn ua n sk sw' → same 44 11 sw sw' → Qs (some (.int (if p < npR r l then nI (trnI (npR r) (loR r) (hiR r) (sumN (npR r) l + p)) else -9))) sw') (h0 : ¬ (∃ l p, l < r 21 ∧ p < 2 ^ 31 ∧ x = nI l ∧ y = nI p) → Qs (some (.int (-1))) sw) : gv_S ε (d + 6) m_X8_goes [.ref 44, .int x, .int y] sw Qs := by
  obtain ⟨v, ch, A, lz, hz, hw, rfl, rfl, rfl, rfl, rfl, rfl, rfl, e0, e1, e2, e8⟩ := hM
  exact sp_X8_goes x y hw hr (fun l p a b c e v' ch' lz' hz' sw' hv w' m' => h1 l p a b c e sw' ⟨v', ch', A, lz', hz', w', rfl, rfl, rfl, rfl, rfl, rfl, rfl, (hv 0 (by decide) (by decide)).trans e0, (hv 1 (by decide) (by decide)).trans e1, (hv 2 (by decide) (by decide)).trans e2, (hv 8 (by decide) (by decide)).trans e8⟩ m') h0
theorem spw_way (x : Int32) (hM : moW r U fk Kp T ln nu kn ua n sk sw) (hr : roOk r) (h1 : ∀ w, w ≤ 2 → x = nI w → ∀ sw', moW r U fk Kp T ln nu kn ua n sk sw' → same 44 11 sw sw' → Qs (some (.int (zI (wayZ (npR r) (loR r) (hiR r) w)))) sw') (h0 : (∀ w, w ≤ 2 → x ≠ nI w) → Qs (some (.int (-1000000))) sw) : gv_S ε (d + 6) m_X8_way [.ref 44, .int x] sw Qs := by
  obtain ⟨v, ch, A, lz, hz, hw, rfl, rfl, rfl, rfl, rfl, rfl, rfl, e0, e1, e2, e8⟩ := hM
  exact sp_X8_way x hw hr (fun w a b v' ch' lz' hz' sw' hv w' m' => h1 w a b sw' ⟨v', ch', A, lz', hz', w', rfl, rfl, rfl, rfl, rfl, rfl, rfl, (hv 0 (by decide) (by decide)).trans e0, (hv 1 (by decide) (by decide)).trans e1, (hv 2 (by decide) (by decide)).trans e2, (hv 8 (by decide) (by decide)).trans e8⟩ m') h0
end SPW
theorem mrW.keep {r U fk Kp T rd ln nu : Nat → Nat} {kn ua n sk : Nat} {pv ts tk : Int32} {sw sw' : List va_E} (h : mrW r U fk Kp T rd ln nu kn ua n sk pv ts tk sw) (hs : same 0 44 sw sw') : mrW r U fk Kp T rd ln nu kn ua n sk pv ts tk sw' := by
  obtain ⟨v, ch, A, lz, hz, hw, h⟩ := h
  exact ⟨v, ch, A, lz, hz, hw.keep hs rfl, h⟩
theorem same.s44 {sw sw' : List va_E} (h : same 22 12 sw sw') : same 0 44 sw sw' := h.wide (by decide) (by decide)
section LAW
variable {ε : gv_E} {n0 : Nat} {Z : State → List Frame → Array Value → State → Prop} {sw : List va_E} {i : Nat}
theorem lc_type (hN : i + 4 ≤ (gv_x ε 3).1) (hNb : (gv_x ε 3).1 < 2 ^ 31) (hI : Inv sw) (kk : ∀ sw', Inv sw' → gv_G ε room_1 m_L_law n0 Z 914 [some (.ref 1003), some (.ref 0), some (.ref 44), some (.int (nI i))] [] sw' 55 1869) : gv_G ε room_1 m_L_law n0 Z 160 [some (.ref 1003), some (.ref 0), some (.ref 44), some (.int (nI i))] [] sw 55 1869 := by
  obtain ⟨s, dr, i0, i1, T, n, x, K, P, W, kn, sk, ln, nu, fl, r, U, fk, Kp, ua, hC, hM, ho, hR, hT, hkn, hua, hS, hF, hI0, hI1, hch⟩ := hI
  have h7 := hC.h7
  have hro := hR.ok ho
  have e21 : r 21 = s.2.2.2.2 := hR.2.2.1
  have hl4 := ho.2.2.2.2.1
  refine t_L_law_160 (t_L_law_161 (t_L_law_162 (t_L_law_163 (t_L_law_164N (t_L_law_165_x (j := 3) (by decide) (i + 1) (by omega) rfl hNb (t_L_law_166 h7 (Nat.le_of_ble_eq_true rfl) (Nat.le_of_ble_eq_true rfl) (Nat.le_of_ble_eq_true rfl) (sp_X7_type ((gv_x ε 3).2 (i + 1)) hC hT.1 (fun h => ?_) (fun c hc e q => ?_) (fun c hc e q sw1 hC1 m1 => ?_))))))))
  · obtain ⟨yfs, y8, yl, y0, y1, y2, y3, y4, y5, y6, y7, y17, y18, y19, yN, yU, yK, yP, yT, yA, yB⟩ := hM.view
    refine t_L_law_169 (t_L_law_170 (t_L_law_171 (t_L_law_172 (t_L_law_173N (t_L_law_174_x (j := 3) (by decide) (i + 1) (by omega) rfl hNb (t_L_law_175 y8 (Nat.le_of_ble_eq_true rfl) (Nat.le_of_ble_eq_true rfl) (Nat.le_of_ble_eq_true rfl) (sp_X8_type ((gv_x ε 3).2 (i + 1)) hM hT.1 (fun h' => ?_) (fun c hc e q => absurd e (h c hc)) (fun c hc e q => absurd e (h c hc)))))))))
    refine t_L_law_178 (fun _ => ?_) (fun h => absurd rfl h)
    exact kk sw ⟨_, _, _, _, _, _, _, _, _, _, _, _, _, _, _, _, _, _, _, _, hC, hM, ho, hR, hT, hkn, hua, hS, hF, hI0, hI1, hch⟩
  · obtain ⟨yfs, y8, yl, y0, y1, y2, y3, y4, y5, y6, y7, y17, y18, y19, yN, yU, yK, yP, yT, yA, yB⟩ := hM.view
    refine t_L_law_169 (t_L_law_170 (t_L_law_171 (t_L_law_172 (t_L_law_173N (t_L_law_174_x (j := 3) (by decide) (i + 1) (by omega) rfl hNb (t_L_law_175 y8 (Nat.le_of_ble_eq_true rfl) (Nat.le_of_ble_eq_true rfl) (Nat.le_of_ble_eq_true rfl) (sp_X8_type ((gv_x ε 3).2 (i + 1)) hM hT.1 (fun h' => absurd e (h' c hc)) (fun c' hc' e' q' => ?_) (fun c' hc' e' q' => absurd q' (by omega)))))))))
    refine t_L_law_178 (fun _ => ?_) (fun h => absurd rfl h)
    exact kk sw ⟨_, _, _, _, _, _, _, _, _, _, _, _, _, _, _, _, _, _, _, _, hC, hM, ho, hR, hT, hkn, hua, hS, hF, hI0, hI1, hch⟩
  · have hM1 := hM.keep m1
    obtain ⟨yfs, y8, yl, y0, y1, y2, y3, y4, y5, y6, y7, y17, y18, y19, yN, yU, yK, yP, yT, yA, yB⟩ := hM1.view
    refine t_L_law_169 (t_L_law_170 (t_L_law_171 (t_L_law_172 (t_L_law_173N (t_L_law_174_x (j := 3) (by decide) (i + 1) (by omega) rfl hNb (t_L_law_175 y8 (Nat.le_of_ble_eq_true rfl) (Nat.le_of_ble_eq_true rfl) (Nat.le_of_ble_eq_true rfl) (sp_X8_type ((gv_x ε 3).2 (i + 1)) hM1 hT.1 (fun h' => absurd e (h' c hc)) (fun c' hc' e' q' => absurd q' (by omega)) (fun c' hc' e' q' sw2 hM2 m2 => ?_))))))))
    have ec : c' = c := nI_inj (by omega) (by omega) (e'.symm.trans e)
    subst ec
    have hT' : txOk (fun i => if i = n then c' else T i) (n + 1) := ⟨q, fun j hj => by
      show (if j = n then c' else T j) ≤ 255
      split
      · exact hc
      · exact hT.2 j (by omega)⟩
    refine t_L_law_178 (fun _ => ?_) (fun h => absurd rfl h)
    exact kk sw2 ⟨_, _, _, _, _, _, _, _, _, _, _, _, _, _, _, _, _, _, _, _, hC1.mo m2, hM2, ho, hR, hT', hkn, hua, hS, hF, hI0, hI1, hch⟩
theorem lc_clear (hN : i + 4 ≤ (gv_x ε 3).1) (hNb : (gv_x ε 3).1 < 2 ^ 31) (hI : Inv sw) (kk : ∀ sw', Inv sw' → gv_G ε room_1 m_L_law n0 Z 914 [some (.ref 1003), some (.ref 0), some (.ref 44), some (.int (nI i))] [] sw' 55 1869) : gv_G ε room_1 m_L_law n0 Z 183 [some (.ref 1003), some (.ref 0), some (.ref 44), some (.int (nI i))] [] sw 55 1869 := by
  obtain ⟨s, dr, i0, i1, T, n, x, K, P, W, kn, sk, ln, nu, fl, r, U, fk, Kp, ua, hC, hM, ho, hR, hT, hkn, hua, hS, hF, hI0, hI1, hch⟩ := hI
  have h7 := hC.h7
  have hro := hR.ok ho
  have e21 : r 21 = s.2.2.2.2 := hR.2.2.1
  have hl4 := ho.2.2.2.2.1
  refine t_L_law_183 (t_L_law_184 h7 (Nat.le_of_ble_eq_true rfl) (Nat.le_of_ble_eq_true rfl) (Nat.le_of_ble_eq_true rfl) (sp_X7_clear hC (fun sw1 hC1 m1 => ?_)))
  have hM1 := hM.keep m1
  obtain ⟨yfs, y8, yl, y0, y1, y2, y3, y4, y5, y6, y7, y17, y18, y19, yN, yU, yK, yP, yT, yA, yB⟩ := hM1.view
  refine t_L_law_187 (t_L_law_188 y8 (Nat.le_of_ble_eq_true rfl) (Nat.le_of_ble_eq_true rfl) (Nat.le_of_ble_eq_true rfl) (sp_X8_clear hM1 (fun sw2 hM2 m2 => ?_)))
  refine t_L_law_191 (fun _ => ?_) (fun h => absurd rfl h)
  exact kk sw2 ⟨_, _, _, _, _, _, _, _, _, _, _, _, _, _, _, _, _, _, _, _, hC1.mo m2, hM2, ho, hR, ⟨Nat.zero_le _, fun j hj => absurd hj (Nat.not_lt_zero _)⟩, hkn, hua, hS, hF, hI0, hI1, hch⟩
theorem lc_page (hN : i + 4 ≤ (gv_x ε 3).1) (hNb : (gv_x ε 3).1 < 2 ^ 31) (hI : Inv sw) (kk : ∀ sw', Inv sw' → gv_G ε room_1 m_L_law n0 Z 914 [some (.ref 1003), some (.ref 0), some (.ref 44), some (.int (nI i))] [] sw' 55 1869) : gv_G ε room_1 m_L_law n0 Z 196 [some (.ref 1003), some (.ref 0), some (.ref 44), some (.int (nI i))] [] sw 55 1869 := by
  obtain ⟨s, dr, i0, i1, T, n, x, K, P, W, kn, sk, ln, nu, fl, r, U, fk, Kp, ua, hC, hM, ho, hR, hT, hkn, hua, hS, hF, hI0, hI1, hch⟩ := hI
  have h7 := hC.h7
  have hro := hR.ok ho
  have e21 : r 21 = s.2.2.2.2 := hR.2.2.1
  have hl4 := ho.2.2.2.2.1
  obtain ⟨rd, pv, ts, tk, hm0⟩ := hM.mr
  refine t_L_law_196 (t_L_law_197 h7 (Nat.le_of_ble_eq_true rfl) (Nat.le_of_ble_eq_true rfl) (Nat.le_of_ble_eq_true rfl) (sp_X7_page (begF_bg rd) hC hT (fun hy x' t' sw1 hC1 m1 => ?_) (fun hy s' x' t' fl' sw1 hR' ho' f0 f1 hC1 m1 => ?_)))
  · have hM1 := hM.keep m1
    obtain ⟨yfs, y8, yl, y0, y1, y2, y3, y4, y5, y6, y7, y17, y18, y19, yN, yU, yK, yP, yT, yA, yB⟩ := hM1.view
    refine t_L_law_200 (t_L_law_201 y8 (Nat.le_of_ble_eq_true rfl) (Nat.le_of_ble_eq_true rfl) (Nat.le_of_ble_eq_true rfl) (sp_X8_page (hm0.keep m1) hT (fun hy' sw2 hM2 m2 => ?_) (fun hy' => absurd hy' hy)))
    refine t_L_law_204 (fun _ => ?_) (fun h => absurd rfl h)
    exact kk sw2 ⟨_, _, _, _, _, _, _, _, _, _, _, _, _, _, _, _, _, _, _, _, hC1.mo m2, hM2, ho, hR, hT, hkn, hua, hS, hF, hI0, hI1, hch⟩
  · have hM1 := hM.keep m1
    obtain ⟨yfs, y8, yl, y0, y1, y2, y3, y4, y5, y6, y7, y17, y18, y19, yN, yU, yK, yP, yT, yA, yB⟩ := hM1.view
    refine t_L_law_200 (t_L_law_201 y8 (Nat.le_of_ble_eq_true rfl) (Nat.le_of_ble_eq_true rfl) (Nat.le_of_ble_eq_true rfl) (sp_X8_page (hm0.keep m1) hT (fun hy' => absurd hy hy') (fun hy' r' fk' sw2 hr' g0 g1 hM2 m2 => ?_)))
    have hF' : ∀ j, j < 2 → fl' j ≤ 1 ∧ fk' j = fl' j := by
      intro j hj
      have hj2 : j = 0 ∨ j = 1 := by omega
      rcases hj2 with e | e
      · rw [e, f0, g0]
        exact ⟨Nat.zero_le _, rfl⟩
      · rw [e, f1, g1]
        exact ⟨Nat.zero_le _, rfl⟩
    refine t_L_law_204 (fun _ => ?_) (fun h => absurd rfl h)
    exact kk sw2 ⟨_, _, _, _, _, _, _, _, _, _, _, _, _, _, _, _, _, _, _, _, hC1.mo m2, hM2, ho', hR'.cong hr', ⟨Nat.zero_le _, fun j hj => absurd hj (Nat.not_lt_zero _)⟩, Nat.zero_le _, hua, ⟨Nat.zero_le _, fun j hj => absurd hj (Nat.not_lt_zero _)⟩, hF', fun z => absurd z (by rw [f0]; decide), fun z => absurd z (by rw [f1]; decide), fun j hj => absurd hj (Nat.not_lt_zero _)⟩
theorem lc_letter (hN : i + 4 ≤ (gv_x ε 3).1) (hNb : (gv_x ε 3).1 < 2 ^ 31) (hI : Inv sw) (kk : ∀ sw', Inv sw' → gv_G ε room_1 m_L_law n0 Z 914 [some (.ref 1003), some (.ref 0), some (.ref 44), some (.int (nI i))] [] sw' 55 1869) : gv_G ε room_1 m_L_law n0 Z 209 [some (.ref 1003), some (.ref 0), some (.ref 44), some (.int (nI i))] [] sw 55 1869 := by
  obtain ⟨s, dr, i0, i1, T, n, x, K, P, W, kn, sk, ln, nu, fl, r, U, fk, Kp, ua, hC, hM, ho, hR, hT, hkn, hua, hS, hF, hI0, hI1, hch⟩ := hI
  have h7 := hC.h7
  have hro := hR.ok ho
  have e21 : r 21 = s.2.2.2.2 := hR.2.2.1
  have hl4 := ho.2.2.2.2.1
  obtain ⟨yfs, y8, yl, y0, y1, y2, y3, y4, y5, y6, y7, y17, y18, y19, yN, yU, yK, yP, yT, yA, yB⟩ := hM.view
  refine t_L_law_209 (t_L_law_210 (t_L_law_211 (t_L_law_212 (t_L_law_213N (t_L_law_214_x (j := 3) (by decide) (i + 1) (by omega) rfl hNb (t_L_law_215 (t_L_law_216 (t_L_law_217 (t_L_law_218N (t_L_law_219_x (j := 3) (by decide) (i + 2) (by omega) rfl hNb (t_L_law_220 h7 (Nat.le_of_ble_eq_true rfl) (Nat.le_of_ble_eq_true rfl) (Nat.le_of_ble_eq_true rfl) (sp_X7_letter ((gv_x ε 3).2 (i + 1)) ((gv_x ε 3).2 (i + 2)) hC (fun a c ha hc e1 e2 => ?_) (fun h => ?_)))))))))))))
  · refine t_L_law_223 (t_L_law_224 (t_L_law_225 (t_L_law_226 (t_L_law_227N (t_L_law_228_x (j := 3) (by decide) (i + 1) (by omega) rfl hNb (t_L_law_229 (t_L_law_230 (t_L_law_231 (t_L_law_232N (t_L_law_233_x (j := 3) (by decide) (i + 2) (by omega) rfl hNb (t_L_law_234 y8 (Nat.le_of_ble_eq_true rfl) (Nat.le_of_ble_eq_true rfl) (Nat.le_of_ble_eq_true rfl) (sp_X8_letter ((gv_x ε 3).2 (i + 1)) ((gv_x ε 3).2 (i + 2)) hM (fun a' c' ha' hc' e1' e2' => ?_) (fun h' => absurd ⟨a, c, ha, hc, e1, e2⟩ h')))))))))))))
    have ea : a' = a := nI_inj (by omega) (by omega) (e1'.symm.trans e1)
    have ec : c' = c := nI_inj (by omega) (by omega) (e2'.symm.trans e2)
    rw [ea, ec, hR.2.1 (3 * a + c) (by omega)]
    refine t_L_law_237 (fun _ => ?_) (fun h => absurd rfl h)
    exact kk sw ⟨_, _, _, _, _, _, _, _, _, _, _, _, _, _, _, _, _, _, _, _, hC, hM, ho, hR, hT, hkn, hua, hS, hF, hI0, hI1, hch⟩
  · refine t_L_law_223 (t_L_law_224 (t_L_law_225 (t_L_law_226 (t_L_law_227N (t_L_law_228_x (j := 3) (by decide) (i + 1) (by omega) rfl hNb (t_L_law_229 (t_L_law_230 (t_L_law_231 (t_L_law_232N (t_L_law_233_x (j := 3) (by decide) (i + 2) (by omega) rfl hNb (t_L_law_234 y8 (Nat.le_of_ble_eq_true rfl) (Nat.le_of_ble_eq_true rfl) (Nat.le_of_ble_eq_true rfl) (sp_X8_letter ((gv_x ε 3).2 (i + 1)) ((gv_x ε 3).2 (i + 2)) hM (fun a' c' ha' hc' e1' e2' => absurd ⟨a', c', ha', hc', e1', e2'⟩ h) (fun h' => ?_)))))))))))))
    refine t_L_law_237 (fun _ => ?_) (fun h => absurd rfl h)
    exact kk sw ⟨_, _, _, _, _, _, _, _, _, _, _, _, _, _, _, _, _, _, _, _, hC, hM, ho, hR, hT, hkn, hua, hS, hF, hI0, hI1, hch⟩
theorem lc_line (hN : i + 4 ≤ (gv_x ε 3).1) (hNb : (gv_x ε 3).1 < 2 ^ 31) (hI : Inv sw) (kk : ∀ sw', Inv sw' → gv_G ε room_1 m_L_law n0 Z 914 [some (.ref 1003), some (.ref 0), some (.ref 44), some (.int (nI i))] [] sw' 55 1869) : gv_G ε room_1 m_L_law n0 Z 242 [some (.ref 1003), some (.ref 0), some (.ref 44), some (.int (nI i))] [] sw 55 1869 := by
  obtain ⟨s, dr, i0, i1, T, n, x, K, P, W, kn, sk, ln, nu, fl, r, U, fk, Kp, ua, hC, hM, ho, hR, hT, hkn, hua, hS, hF, hI0, hI1, hch⟩ := hI
  have h7 := hC.h7
  have hro := hR.ok ho
  have e21 : r 21 = s.2.2.2.2 := hR.2.2.1
  have hl4 := ho.2.2.2.2.1
  obtain ⟨yfs, y8, yl, y0, y1, y2, y3, y4, y5, y6, y7, y17, y18, y19, yN, yU, yK, yP, yT, yA, yB⟩ := hM.view
  have hlen : ∀ l, l < s.2.2.2.2 → r (22 + l) = s.2.2.1 l := fun l hl => by rw [hR.2.2.2.1 l (by omega), if_pos hl]
  have hm9 : ∀ q, q < 9 → nI q ≠ -1 := by decide +kernel
  refine t_L_law_242 (t_L_law_243 (t_L_law_244 (t_L_law_245 (t_L_law_246N (t_L_law_247_x (j := 3) (by decide) (i + 1) (by omega) rfl hNb (t_L_law_248 (t_L_law_249 (t_L_law_250 (t_L_law_251N (t_L_law_252_x (j := 3) (by decide) (i + 2) (by omega) rfl hNb (t_L_law_253 h7 (Nat.le_of_ble_eq_true rfl) (Nat.le_of_ble_eq_true rfl) (Nat.le_of_ble_eq_true rfl) (sp_X7_line ((gv_x ε 3).2 (i + 1)) ((gv_x ε 3).2 (i + 2)) hC ho (fun l hl e1 e2 => ?_) (fun l k hl hk e1 e2 => ?_) (fun h => ?_)))))))))))))
  · refine t_L_law_256 (t_L_law_257 (t_L_law_258 (t_L_law_259 (t_L_law_260N (t_L_law_261_x (j := 3) (by decide) (i + 1) (by omega) rfl hNb (t_L_law_262 (t_L_law_263 (t_L_law_264 (t_L_law_265N (t_L_law_266_x (j := 3) (by decide) (i + 2) (by omega) rfl hNb (t_L_law_267 y8 (Nat.le_of_ble_eq_true rfl) (Nat.le_of_ble_eq_true rfl) (Nat.le_of_ble_eq_true rfl) (sp_X8_line ((gv_x ε 3).2 (i + 1)) ((gv_x ε 3).2 (i + 2)) hM hro (fun l' hl' e1' e2' => ?_) (fun l' k' hl' hk' e1' e2' => absurd (e2'.symm.trans e2) (hm9 _ (by have := hro.2.2.2.2.2.1 l' (by omega); omega))) (fun h' => absurd e2 (h' l (by omega) e1).1)))))))))))))
    have el : l' = l := nI_inj (by omega) (by omega) (e1'.symm.trans e1)
    rw [el, hlen l hl]
    refine t_L_law_270 (fun _ => ?_) (fun h => absurd rfl h)
    exact kk sw ⟨_, _, _, _, _, _, _, _, _, _, _, _, _, _, _, _, _, _, _, _, hC, hM, ho, hR, hT, hkn, hua, hS, hF, hI0, hI1, hch⟩
  · have h8 := ho.2.2.2.2.2.1 l hl
    refine t_L_law_256 (t_L_law_257 (t_L_law_258 (t_L_law_259 (t_L_law_260N (t_L_law_261_x (j := 3) (by decide) (i + 1) (by omega) rfl hNb (t_L_law_262 (t_L_law_263 (t_L_law_264 (t_L_law_265N (t_L_law_266_x (j := 3) (by decide) (i + 2) (by omega) rfl hNb (t_L_law_267 y8 (Nat.le_of_ble_eq_true rfl) (Nat.le_of_ble_eq_true rfl) (Nat.le_of_ble_eq_true rfl) (sp_X8_line ((gv_x ε 3).2 (i + 1)) ((gv_x ε 3).2 (i + 2)) hM hro (fun l' hl' e1' e2' => absurd (e2.symm.trans e2') (hm9 _ (by omega))) (fun l' k' hl' hk' e1' e2' => ?_) (fun h' => absurd e2 ((h' l (by omega) e1).2 k (by rw [hlen l hl]; exact hk)))))))))))))))
    have el : l' = l := nI_inj (by omega) (by omega) (e1'.symm.trans e1)
    subst el
    rw [hlen l' hl] at hk'
    have ek : k' = k := nI_inj (by omega) (by omega) (e2'.symm.trans e2)
    subst ek
    rw [hR.2.2.2.2 l' k' (by omega) (by omega), if_pos ⟨hl, hk⟩]
    refine t_L_law_270 (fun _ => ?_) (fun h => absurd rfl h)
    exact kk sw ⟨_, _, _, _, _, _, _, _, _, _, _, _, _, _, _, _, _, _, _, _, hC, hM, ho, hR, hT, hkn, hua, hS, hF, hI0, hI1, hch⟩
  · refine t_L_law_256 (t_L_law_257 (t_L_law_258 (t_L_law_259 (t_L_law_260N (t_L_law_261_x (j := 3) (by decide) (i + 1) (by omega) rfl hNb (t_L_law_262 (t_L_law_263 (t_L_law_264 (t_L_law_265N (t_L_law_266_x (j := 3) (by decide) (i + 2) (by omega) rfl hNb (t_L_law_267 y8 (Nat.le_of_ble_eq_true rfl) (Nat.le_of_ble_eq_true rfl) (Nat.le_of_ble_eq_true rfl) (sp_X8_line ((gv_x ε 3).2 (i + 1)) ((gv_x ε 3).2 (i + 2)) hM hro (fun l' hl' e1' e2' => absurd e2' (h l' (by omega) e1').1) (fun l' k' hl' hk' e1' e2' => absurd e2' ((h l' (by omega) e1').2 k' (by rw [← hlen l' (by omega)]; exact hk'))) (fun h' => ?_)))))))))))))
    refine t_L_law_270 (fun _ => ?_) (fun h => absurd rfl h)
    exact kk sw ⟨_, _, _, _, _, _, _, _, _, _, _, _, _, _, _, _, _, _, _, _, hC, hM, ho, hR, hT, hkn, hua, hS, hF, hI0, hI1, hch⟩
theorem lc_dots (hN : i + 4 ≤ (gv_x ε 3).1) (hNb : (gv_x ε 3).1 < 2 ^ 31) (hI : Inv sw) (kk : ∀ sw', Inv sw' → gv_G ε room_1 m_L_law n0 Z 914 [some (.ref 1003), some (.ref 0), some (.ref 44), some (.int (nI i))] [] sw' 55 1869) : gv_G ε room_1 m_L_law n0 Z 275 [some (.ref 1003), some (.ref 0), some (.ref 44), some (.int (nI i))] [] sw 55 1869 := by
  obtain ⟨s, dr, i0, i1, T, n, x, K, P, W, kn, sk, ln, nu, fl, r, U, fk, Kp, ua, hC, hM, ho, hR, hT, hkn, hua, hS, hF, hI0, hI1, hch⟩ := hI
  have h7 := hC.h7
  have hro := hR.ok ho
  have e21 : r 21 = s.2.2.2.2 := hR.2.2.1
  have hl4 := ho.2.2.2.2.1
  obtain ⟨yfs, y8, yl, y0, y1, y2, y3, y4, y5, y6, y7, y17, y18, y19, yN, yU, yK, yP, yT, yA, yB⟩ := hM.view
  refine t_L_law_275 (t_L_law_276 (t_L_law_277 (t_L_law_278 (t_L_law_279N (t_L_law_280_x (j := 3) (by decide) (i + 1) (by omega) rfl hNb (t_L_law_281 (t_L_law_282 (t_L_law_283 (t_L_law_284N (t_L_law_285_x (j := 3) (by decide) (i + 2) (by omega) rfl hNb (t_L_law_286 h7 (Nat.le_of_ble_eq_true rfl) (Nat.le_of_ble_eq_true rfl) (Nat.le_of_ble_eq_true rfl) (sp_X7_dots ((gv_x ε 3).2 (i + 1)) ((gv_x ε 3).2 (i + 2)) hC ho (fun l c hl hc e1 e2 => ?_) (fun h => ?_)))))))))))))
  · refine t_L_law_289 (t_L_law_290 (t_L_law_291 (t_L_law_292 (t_L_law_293N (t_L_law_294_x (j := 3) (by decide) (i + 1) (by omega) rfl hNb (t_L_law_295 (t_L_law_296 (t_L_law_297 (t_L_law_298N (t_L_law_299_x (j := 3) (by decide) (i + 2) (by omega) rfl hNb (t_L_law_300 y8 (Nat.le_of_ble_eq_true rfl) (Nat.le_of_ble_eq_true rfl) (Nat.le_of_ble_eq_true rfl) (sp_X8_dots ((gv_x ε 3).2 (i + 1)) ((gv_x ε 3).2 (i + 2)) hM hro (fun l' c' hl' hc' e1' e2' => ?_) (fun h' => absurd ⟨l, c, by omega, hc, e1, e2⟩ h')))))))))))))
    have el : l' = l := nI_inj (by omega) (by omega) (e1'.symm.trans e1)
    have ec : c' = c := nI_inj (by omega) (by omega) (e2'.symm.trans e2)
    rw [el, ec, ← hR.ink ho hl hc]
    refine t_L_law_303 (fun _ => ?_) (fun h => absurd rfl h)
    exact kk sw ⟨_, _, _, _, _, _, _, _, _, _, _, _, _, _, _, _, _, _, _, _, hC, hM, ho, hR, hT, hkn, hua, hS, hF, hI0, hI1, hch⟩
  · refine t_L_law_289 (t_L_law_290 (t_L_law_291 (t_L_law_292 (t_L_law_293N (t_L_law_294_x (j := 3) (by decide) (i + 1) (by omega) rfl hNb (t_L_law_295 (t_L_law_296 (t_L_law_297 (t_L_law_298N (t_L_law_299_x (j := 3) (by decide) (i + 2) (by omega) rfl hNb (t_L_law_300 y8 (Nat.le_of_ble_eq_true rfl) (Nat.le_of_ble_eq_true rfl) (Nat.le_of_ble_eq_true rfl) (sp_X8_dots ((gv_x ε 3).2 (i + 1)) ((gv_x ε 3).2 (i + 2)) hM hro (fun l' c' hl' hc' e1' e2' => absurd ⟨l', c', by omega, hc', e1', e2'⟩ h) (fun h' => ?_)))))))))))))
    refine t_L_law_303 (fun _ => ?_) (fun h => absurd rfl h)
    exact kk sw ⟨_, _, _, _, _, _, _, _, _, _, _, _, _, _, _, _, _, _, _, _, hC, hM, ho, hR, hT, hkn, hua, hS, hF, hI0, hI1, hch⟩
theorem lc_draws (hN : i + 4 ≤ (gv_x ε 3).1) (hNb : (gv_x ε 3).1 < 2 ^ 31) (hI : Inv sw) (kk : ∀ sw', Inv sw' → gv_G ε room_1 m_L_law n0 Z 914 [some (.ref 1003), some (.ref 0), some (.ref 44), some (.int (nI i))] [] sw' 55 1869) : gv_G ε room_1 m_L_law n0 Z 308 [some (.ref 1003), some (.ref 0), some (.ref 44), some (.int (nI i))] [] sw 55 1869 := by
  obtain ⟨s, dr, i0, i1, T, n, x, K, P, W, kn, sk, ln, nu, fl, r, U, fk, Kp, ua, hC, hM, ho, hR, hT, hkn, hua, hS, hF, hI0, hI1, hch⟩ := hI
  have h7 := hC.h7
  have hro := hR.ok ho
  have e21 : r 21 = s.2.2.2.2 := hR.2.2.1
  have hl4 := ho.2.2.2.2.1
  refine t_L_law_308 (t_L_law_309 (t_L_law_310 (t_L_law_311 (t_L_law_312N (t_L_law_313_x (j := 3) (by decide) (i + 1) (by omega) rfl hNb (t_L_law_314 (t_L_law_315 (t_L_law_316 (t_L_law_317N (t_L_law_318_x (j := 3) (by decide) (i + 2) (by omega) rfl hNb (t_L_law_319 (t_L_law_320 (t_L_law_321 (t_L_law_322N (t_L_law_323_x (j := 3) (by decide) (i + 3) (by omega) rfl hNb (t_L_law_324 h7 (Nat.le_of_ble_eq_true rfl) (Nat.le_of_ble_eq_true rfl) (Nat.le_of_ble_eq_true rfl) (sp_X7_draws ((gv_x ε 3).2 (i + 1)) ((gv_x ε 3).2 (i + 2)) ((gv_x ε 3).2 (i + 3)) hC ho hkn (fun h => ?_) (fun a c w ha hc hw e1 e2 e3 q => ?_) (fun a c w ha hc hw e1 e2 e3 q K' P' W' kn' sw1 hD hC1 m1 => ?_))))))))))))))))))
  · obtain ⟨yfs, y8, yl, y0, y1, y2, y3, y4, y5, y6, y7, y17, y18, y19, yN, yU, yK, yP, yT, yA, yB⟩ := hM.view
    refine t_L_law_327 (t_L_law_328 (t_L_law_329 (t_L_law_330 (t_L_law_331N (t_L_law_332_x (j := 3) (by decide) (i + 1) (by omega) rfl hNb (t_L_law_333 (t_L_law_334 (t_L_law_335 (t_L_law_336N (t_L_law_337_x (j := 3) (by decide) (i + 2) (by omega) rfl hNb (t_L_law_338 (t_L_law_339 (t_L_law_340 (t_L_law_341N (t_L_law_342_x (j := 3) (by decide) (i + 3) (by omega) rfl hNb (t_L_law_343 y8 (Nat.le_of_ble_eq_true rfl) (Nat.le_of_ble_eq_true rfl) (Nat.le_of_ble_eq_true rfl) (sp_X8_draws ((gv_x ε 3).2 (i + 1)) ((gv_x ε 3).2 (i + 2)) ((gv_x ε 3).2 (i + 3)) hM hro hua hkn (fun h' => ?_) (fun a c w ha hc hw e1 e2 e3 => absurd ⟨a, c, w, ha, hc, hw, e1, e2, e3⟩ h) (fun a c w ha hc hw e1 e2 e3 => absurd ⟨a, c, w, ha, hc, hw, e1, e2, e3⟩ h))))))))))))))))))
    refine t_L_law_346 (fun _ => ?_) (fun h => absurd rfl h)
    exact kk sw ⟨_, _, _, _, _, _, _, _, _, _, _, _, _, _, _, _, _, _, _, _, hC, hM, ho, hR, hT, hkn, hua, hS, hF, hI0, hI1, hch⟩
  · obtain ⟨yfs, y8, yl, y0, y1, y2, y3, y4, y5, y6, y7, y17, y18, y19, yN, yU, yK, yP, yT, yA, yB⟩ := hM.view
    have er := hR.2.1 (3 * a + c) (by omega)
    refine t_L_law_327 (t_L_law_328 (t_L_law_329 (t_L_law_330 (t_L_law_331N (t_L_law_332_x (j := 3) (by decide) (i + 1) (by omega) rfl hNb (t_L_law_333 (t_L_law_334 (t_L_law_335 (t_L_law_336N (t_L_law_337_x (j := 3) (by decide) (i + 2) (by omega) rfl hNb (t_L_law_338 (t_L_law_339 (t_L_law_340 (t_L_law_341N (t_L_law_342_x (j := 3) (by decide) (i + 3) (by omega) rfl hNb (t_L_law_343 y8 (Nat.le_of_ble_eq_true rfl) (Nat.le_of_ble_eq_true rfl) (Nat.le_of_ble_eq_true rfl) (sp_X8_draws ((gv_x ε 3).2 (i + 1)) ((gv_x ε 3).2 (i + 2)) ((gv_x ε 3).2 (i + 3)) hM hro hua hkn (fun h' => absurd ⟨a, c, w, ha, hc, hw, e1, e2, e3⟩ h') (fun a' c' w' ha' hc' hw' e1' e2' e3' q' => ?_) (fun a' c' w' ha' hc' hw' e1' e2' e3' q' => ?_))))))))))))))))))
    · refine t_L_law_346 (fun _ => ?_) (fun h => absurd rfl h)
      exact kk sw ⟨_, _, _, _, _, _, _, _, _, _, _, _, _, _, _, _, _, _, _, _, hC, hM, ho, hR, hT, hkn, hua, hS, hF, hI0, hI1, hch⟩
    · exfalso
      have ea : a' = a := nI_inj (by omega) (by omega) (e1'.symm.trans e1)
      have ec : c' = c := nI_inj (by omega) (by omega) (e2'.symm.trans e2)
      have ew : w' = w := nI_inj (by omega) (by omega) (e3'.symm.trans e3)
      rw [ea, ec, ew, er] at q'
      exact q' q
  · have hM1 := hM.keep m1
    obtain ⟨yfs, y8, yl, y0, y1, y2, y3, y4, y5, y6, y7, y17, y18, y19, yN, yU, yK, yP, yT, yA, yB⟩ := hM1.view
    have er := hR.2.1 (3 * a + c) (by omega)
    refine t_L_law_327 (t_L_law_328 (t_L_law_329 (t_L_law_330 (t_L_law_331N (t_L_law_332_x (j := 3) (by decide) (i + 1) (by omega) rfl hNb (t_L_law_333 (t_L_law_334 (t_L_law_335 (t_L_law_336N (t_L_law_337_x (j := 3) (by decide) (i + 2) (by omega) rfl hNb (t_L_law_338 (t_L_law_339 (t_L_law_340 (t_L_law_341N (t_L_law_342_x (j := 3) (by decide) (i + 3) (by omega) rfl hNb (t_L_law_343 y8 (Nat.le_of_ble_eq_true rfl) (Nat.le_of_ble_eq_true rfl) (Nat.le_of_ble_eq_true rfl) (sp_X8_draws ((gv_x ε 3).2 (i + 1)) ((gv_x ε 3).2 (i + 2)) ((gv_x ε 3).2 (i + 3)) hM1 hro hua hkn (fun h' => absurd ⟨a, c, w, ha, hc, hw, e1, e2, e3⟩ h') (fun a' c' w' ha' hc' hw' e1' e2' e3' q' => ?_) (fun a' c' w' ha' hc' hw' e1' e2' e3' q' U' sw2 hU hM2 m2 => ?_))))))))))))))))))
    · exfalso
      have ea : a' = a := nI_inj (by omega) (by omega) (e1'.symm.trans e1)
      have ec : c' = c := nI_inj (by omega) (by omega) (e2'.symm.trans e2)
      have ew : w' = w := nI_inj (by omega) (by omega) (e3'.symm.trans e3)
      rw [ea, ec, ew, er] at q'
      exact q q'
    · have ea : a' = a := nI_inj (by omega) (by omega) (e1'.symm.trans e1)
      have ec : c' = c := nI_inj (by omega) (by omega) (e2'.symm.trans e2)
      have ew : w' = w := nI_inj (by omega) (by omega) (e3'.symm.trans e3)
      subst ea
      subst ec
      subst ew
      have ek := hD.1
      subst ek
      have hch' := chn_push hch hua hD hU (r' := up r (3 + (3 * a' + c')) w') (Or.inl ⟨rfl, by omega, ho.2.2.2.1 _ (by omega)⟩) (fun i _ => up_back er.symm i) hkn
      rw [er]
      refine t_L_law_346 (fun _ => ?_) (fun h => absurd rfl h)
      exact kk sw2 ⟨_, _, _, _, _, _, _, _, _, _, _, _, _, _, _, _, _, _, _, _, hC1.mo m2, hM2, shOk_draw ho hw, Rel_draw hR (by omega), hT, Nat.min_le_right _ _, Nat.mod_lt _ (by decide), hS, hF, hI0, hI1, hch'⟩
theorem lc_types (hN : i + 4 ≤ (gv_x ε 3).1) (hNb : (gv_x ε 3).1 < 2 ^ 31) (hI : Inv sw) (kk : ∀ sw', Inv sw' → gv_G ε room_1 m_L_law n0 Z 914 [some (.ref 1003), some (.ref 0), some (.ref 44), some (.int (nI i))] [] sw' 55 1869) : gv_G ε room_1 m_L_law n0 Z 351 [some (.ref 1003), some (.ref 0), some (.ref 44), some (.int (nI i))] [] sw 55 1869 := by
  obtain ⟨s, dr, i0, i1, T, n, x, K, P, W, kn, sk, ln, nu, fl, r, U, fk, Kp, ua, hC, hM, ho, hR, hT, hkn, hua, hS, hF, hI0, hI1, hch⟩ := hI
  have h7 := hC.h7
  have hro := hR.ok ho
  have e21 : r 21 = s.2.2.2.2 := hR.2.2.1
  have hl4 := ho.2.2.2.2.1
  have hlen : ∀ l, l < s.2.2.2.2 → r (22 + l) = s.2.2.1 l := fun l hl => by rw [hR.2.2.2.1 l (by omega), if_pos hl]
  refine t_L_law_351 (t_L_law_352 (t_L_law_353 (t_L_law_354 (t_L_law_355N (t_L_law_356_x (j := 3) (by decide) (i + 1) (by omega) rfl hNb (t_L_law_357 (t_L_law_358 (t_L_law_359 (t_L_law_360N (t_L_law_361_x (j := 3) (by decide) (i + 2) (by omega) rfl hNb (t_L_law_362 h7 (Nat.le_of_ble_eq_true rfl) (Nat.le_of_ble_eq_true rfl) (Nat.le_of_ble_eq_true rfl) (sp_X7_types ((gv_x ε 3).2 (i + 1)) ((gv_x ε 3).2 (i + 2)) hC ho hkn (fun h => ?_) (fun l g hl hg e1 e2 q => ?_) (fun l g hl hg e1 e2 q K' P' W' kn' sw1 hD hC1 m1 => ?_) (fun g hl hg e1 e2 K' P' W' kn' sw1 hD hC1 m1 => ?_)))))))))))))
  · obtain ⟨yfs, y8, yl, y0, y1, y2, y3, y4, y5, y6, y7, y17, y18, y19, yN, yU, yK, yP, yT, yA, yB⟩ := hM.view
    refine t_L_law_365 (t_L_law_366 (t_L_law_367 (t_L_law_368 (t_L_law_369N (t_L_law_370_x (j := 3) (by decide) (i + 1) (by omega) rfl hNb (t_L_law_371 (t_L_law_372 (t_L_law_373 (t_L_law_374N (t_L_law_375_x (j := 3) (by decide) (i + 2) (by omega) rfl hNb (t_L_law_376 y8 (Nat.le_of_ble_eq_true rfl) (Nat.le_of_ble_eq_true rfl) (Nat.le_of_ble_eq_true rfl) (sp_X8_types ((gv_x ε 3).2 (i + 1)) ((gv_x ε 3).2 (i + 2)) hM hro hua hkn (fun h' => ?_) (fun l g hl hg e1 e2 => absurd ⟨l, g, by omega, hg, e1, e2⟩ h) (fun l g hl hg e1 e2 => absurd ⟨l, g, by omega, hg, e1, e2⟩ h)))))))))))))
    refine t_L_law_379 (fun _ => ?_) (fun h => absurd rfl h)
    exact kk sw ⟨_, _, _, _, _, _, _, _, _, _, _, _, _, _, _, _, _, _, _, _, hC, hM, ho, hR, hT, hkn, hua, hS, hF, hI0, hI1, hch⟩
  · obtain ⟨yfs, y8, yl, y0, y1, y2, y3, y4, y5, y6, y7, y17, y18, y19, yN, yU, yK, yP, yT, yA, yB⟩ := hM.view
    refine t_L_law_365 (t_L_law_366 (t_L_law_367 (t_L_law_368 (t_L_law_369N (t_L_law_370_x (j := 3) (by decide) (i + 1) (by omega) rfl hNb (t_L_law_371 (t_L_law_372 (t_L_law_373 (t_L_law_374N (t_L_law_375_x (j := 3) (by decide) (i + 2) (by omega) rfl hNb (t_L_law_376 y8 (Nat.le_of_ble_eq_true rfl) (Nat.le_of_ble_eq_true rfl) (Nat.le_of_ble_eq_true rfl) (sp_X8_types ((gv_x ε 3).2 (i + 1)) ((gv_x ε 3).2 (i + 2)) hM hro hua hkn (fun h' => absurd ⟨l, g, by omega, hg, e1, e2⟩ h') (fun l' g' hl' hg' e1' e2' q' => ?_) (fun l' g' hl' hg' e1' e2' q1 q2 => ?_)))))))))))))
    · refine t_L_law_379 (fun _ => ?_) (fun h => absurd rfl h)
      exact kk sw ⟨_, _, _, _, _, _, _, _, _, _, _, _, _, _, _, _, _, _, _, _, hC, hM, ho, hR, hT, hkn, hua, hS, hF, hI0, hI1, hch⟩
    · exfalso
      have el : l' = l := nI_inj (by omega) (by omega) (e1'.symm.trans e1)
      subst el
      rcases q with z | z
      · omega
      · rw [hlen l' z.1] at q2
        omega
  · have hM1 := hM.keep m1
    obtain ⟨yfs, y8, yl, y0, y1, y2, y3, y4, y5, y6, y7, y17, y18, y19, yN, yU, yK, yP, yT, yA, yB⟩ := hM1.view
    have er := hlen l hl
    refine t_L_law_365 (t_L_law_366 (t_L_law_367 (t_L_law_368 (t_L_law_369N (t_L_law_370_x (j := 3) (by decide) (i + 1) (by omega) rfl hNb (t_L_law_371 (t_L_law_372 (t_L_law_373 (t_L_law_374N (t_L_law_375_x (j := 3) (by decide) (i + 2) (by omega) rfl hNb (t_L_law_376 y8 (Nat.le_of_ble_eq_true rfl) (Nat.le_of_ble_eq_true rfl) (Nat.le_of_ble_eq_true rfl) (sp_X8_types ((gv_x ε 3).2 (i + 1)) ((gv_x ε 3).2 (i + 2)) hM1 hro hua hkn (fun h' => absurd ⟨l, g, by omega, hg, e1, e2⟩ h') (fun l' g' hl' hg' e1' e2' q' => ?_) (fun l' g' hl' hg' e1' e2' q1 q2 U' sw2 hU hM2 m2 => ?_)))))))))))))
    · exfalso
      have el : l' = l := nI_inj (by omega) (by omega) (e1'.symm.trans e1)
      subst el
      rw [er] at q'
      omega
    · have el : l' = l := nI_inj (by omega) (by omega) (e1'.symm.trans e1)
      have eg : g' = g := nI_inj (by omega) (by omega) (e2'.symm.trans e2)
      subst el
      subst eg
      have ek := hD.1
      subst ek
      have ety : tyR r l' g' = apR r l' g' := tyR_old (by omega)
      rw [ety] at hM2
      have hR' : Rel (shApp s l' g') (apR r l' g') := by
        unfold apR
        rw [er]
        exact Rel_app hR ho hl q
      have h22 : apR r l' g' (22 + l') = r (22 + l') + 1 := up_at _ _ _
      have h21 : apR r l' g' 21 = r 21 := by
        unfold apR
        rw [up_ne (by omega), up_ne (by omega)]
      have hz : r (26 + 8 * l' + r (22 + l')) = 0 := by
        rw [er, hR.2.2.2.2 l' _ q1 q, if_neg (fun z => absurd z.2 (Nat.lt_irrefl _))]
      have ht : ∀ i, i < 58 → r i = skR (apR r l' g') l' i := by
        intro i hi
        unfold skR
        rw [h22, Nat.add_sub_cancel]
        by_cases z1 : i = 26 + 8 * l' + r (22 + l')
        · rw [z1, up_at, hz]
        · rw [up_ne z1]
          by_cases z2 : i = 22 + l'
          · rw [z2, up_at]
          · rw [up_ne z2]
            unfold apR
            rw [up_ne z2, up_ne z1]
      have hch' := chn_push hch hua hD hU (r' := apR r l' g') (Or.inr (Or.inl ⟨rfl, q1, by rw [h21]; omega, by rw [h22]; omega⟩)) ht hkn
      rw [er]
      refine t_L_law_379 (fun _ => ?_) (fun h => absurd rfl h)
      exact kk sw2 ⟨_, _, _, _, _, _, _, _, _, _, _, _, _, _, _, _, _, _, _, _, hC1.mo m2, hM2, shOk_app ho hl q hg, hR', hT, Nat.min_le_right _ _, Nat.mod_lt _ (by decide), hS, hF, hI0, hI1, hch'⟩
  · have hM1 := hM.keep m1
    obtain ⟨yfs, y8, yl, y0, y1, y2, y3, y4, y5, y6, y7, y17, y18, y19, yN, yU, yK, yP, yT, yA, yB⟩ := hM1.view
    have hz0 : r (22 + s.2.2.2.2) = 0 := by rw [hR.2.2.2.1 _ hl, if_neg (Nat.lt_irrefl _)]
    have hzs : ∀ k, k < 8 → r (26 + 8 * s.2.2.2.2 + k) = 0 := fun k hk => by rw [hR.2.2.2.2 _ k hl hk, if_neg (fun z => absurd z.1 (Nat.lt_irrefl _))]
    refine t_L_law_365 (t_L_law_366 (t_L_law_367 (t_L_law_368 (t_L_law_369N (t_L_law_370_x (j := 3) (by decide) (i + 1) (by omega) rfl hNb (t_L_law_371 (t_L_law_372 (t_L_law_373 (t_L_law_374N (t_L_law_375_x (j := 3) (by decide) (i + 2) (by omega) rfl hNb (t_L_law_376 y8 (Nat.le_of_ble_eq_true rfl) (Nat.le_of_ble_eq_true rfl) (Nat.le_of_ble_eq_true rfl) (sp_X8_types ((gv_x ε 3).2 (i + 1)) ((gv_x ε 3).2 (i + 2)) hM1 hro hua hkn (fun h' => absurd ⟨s.2.2.2.2, g, by omega, hg, e1, e2⟩ h') (fun l' g' hl' hg' e1' e2' q' => ?_) (fun l' g' hl' hg' e1' e2' q1 q2 U' sw2 hU hM2 m2 => ?_)))))))))))))
    · exfalso
      have el : l' = s.2.2.2.2 := nI_inj (by omega) (by omega) (e1'.symm.trans e1)
      subst el
      rw [hz0] at q'
      omega
    · have el : l' = s.2.2.2.2 := nI_inj (by omega) (by omega) (e1'.symm.trans e1)
      have eg : g' = g := nI_inj (by omega) (by omega) (e2'.symm.trans e2)
      subst eg
      subst el
      have ek := hD.1
      subst ek
      have ety : tyR r s.2.2.2.2 g' = up (up (up r 21 (s.2.2.2.2 + 1)) (26 + 8 * s.2.2.2.2 + 0) g') (22 + s.2.2.2.2) (0 + 1) := by
        unfold tyR
        rw [hz0, if_pos e21.symm]
      have e0 : (shBeg s).2.2.1 s.2.2.2.2 = 0 := up_at _ _ _
      have hob := shOk_beg ho hl
      have hR' : Rel (shApp (shBeg s) s.2.2.2.2 g') (tyR r s.2.2.2.2 g') := by
        have := Rel_app (Rel_beg hR hl) hob (l := s.2.2.2.2) (g := g') (Nat.lt_succ_self _) (by rw [e0]; omega)
        rw [e0] at this
        rw [ety]
        exact this
      have h21 : tyR r s.2.2.2.2 g' 21 = s.2.2.2.2 + 1 := by
        rw [ety, up_ne (by omega), up_ne (by omega), up_at]
      have ht : ∀ i, i < 58 → r i = drR (tyR r s.2.2.2.2 g') i := by
        intro i hi
        unfold drR
        rw [h21, Nat.add_sub_cancel]
        by_cases z1 : i = 21
        · rw [if_pos z1, z1, e21]
        · rw [if_neg z1]
          by_cases z2 : i = 22 + s.2.2.2.2
          · rw [if_pos (Or.inl z2), z2, hz0]
          · by_cases z3 : 26 + 8 * s.2.2.2.2 ≤ i ∧ i < 34 + 8 * s.2.2.2.2
            · rw [if_pos (Or.inr z3)]
              have := hzs (i - (26 + 8 * s.2.2.2.2)) (by omega)
              rw [show 26 + 8 * s.2.2.2.2 + (i - (26 + 8 * s.2.2.2.2)) = i by omega] at this
              exact this
            · rw [if_neg (fun z => z.elim z2 z3), ety, up_ne z2, up_ne (by omega), up_ne z1]
      have hch' := chn_push hch hua hD hU (r' := tyR r s.2.2.2.2 g') (Or.inr (Or.inr (Or.inl ⟨rfl, by rw [h21]; omega, hl⟩))) ht hkn
      rw [hz0]
      refine t_L_law_379 (fun _ => ?_) (fun h => absurd rfl h)
      exact kk sw2 ⟨_, _, _, _, _, _, _, _, _, _, _, _, _, _, _, _, _, _, _, _, hC1.mo m2, hM2, shOk_app hob (Nat.lt_succ_self _) (by rw [e0]; omega) hg, hR', hT, Nat.min_le_right _ _, Nat.mod_lt _ (by decide), hS, hF, hI0, hI1, hch'⟩
theorem lc_strikes (hN : i + 4 ≤ (gv_x ε 3).1) (hNb : (gv_x ε 3).1 < 2 ^ 31) (hI : Inv sw) (kk : ∀ sw', Inv sw' → gv_G ε room_1 m_L_law n0 Z 914 [some (.ref 1003), some (.ref 0), some (.ref 44), some (.int (nI i))] [] sw' 55 1869) : gv_G ε room_1 m_L_law n0 Z 384 [some (.ref 1003), some (.ref 0), some (.ref 44), some (.int (nI i))] [] sw 55 1869 := by
  obtain ⟨s, dr, i0, i1, T, n, x, K, P, W, kn, sk, ln, nu, fl, r, U, fk, Kp, ua, hC, hM, ho, hR, hT, hkn, hua, hS, hF, hI0, hI1, hch⟩ := hI
  have h7 := hC.h7
  have hro := hR.ok ho
  have e21 : r 21 = s.2.2.2.2 := hR.2.2.1
  have hl4 := ho.2.2.2.2.1
  have hlen : ∀ l, l < s.2.2.2.2 → r (22 + l) = s.2.2.1 l := fun l hl => by rw [hR.2.2.2.1 l (by omega), if_pos hl]
  refine t_L_law_384 (t_L_law_385 (t_L_law_386 (t_L_law_387 (t_L_law_388N (t_L_law_389_x (j := 3) (by decide) (i + 1) (by omega) rfl hNb (t_L_law_390 h7 (Nat.le_of_ble_eq_true rfl) (Nat.le_of_ble_eq_true rfl) (Nat.le_of_ble_eq_true rfl) (sp_X7_strikes ((gv_x ε 3).2 (i + 1)) hC ho hkn (fun h => ?_) (fun l hl e q => ?_) (fun l hl e q K' P' W' kn' sw1 hD hC1 m1 => ?_))))))))
  · obtain ⟨yfs, y8, yl, y0, y1, y2, y3, y4, y5, y6, y7, y17, y18, y19, yN, yU, yK, yP, yT, yA, yB⟩ := hM.view
    refine t_L_law_393 (t_L_law_394 (t_L_law_395 (t_L_law_396 (t_L_law_397N (t_L_law_398_x (j := 3) (by decide) (i + 1) (by omega) rfl hNb (t_L_law_399 y8 (Nat.le_of_ble_eq_true rfl) (Nat.le_of_ble_eq_true rfl) (Nat.le_of_ble_eq_true rfl) (sp_X8_strikes ((gv_x ε 3).2 (i + 1)) hM hro hua hkn (fun h' => ?_) (fun l hl e => absurd e (h l (by omega))) (fun l hl e => absurd e (h l (by omega))))))))))
    refine t_L_law_402 (fun _ => ?_) (fun h => absurd rfl h)
    exact kk sw ⟨_, _, _, _, _, _, _, _, _, _, _, _, _, _, _, _, _, _, _, _, hC, hM, ho, hR, hT, hkn, hua, hS, hF, hI0, hI1, hch⟩
  · obtain ⟨yfs, y8, yl, y0, y1, y2, y3, y4, y5, y6, y7, y17, y18, y19, yN, yU, yK, yP, yT, yA, yB⟩ := hM.view
    refine t_L_law_393 (t_L_law_394 (t_L_law_395 (t_L_law_396 (t_L_law_397N (t_L_law_398_x (j := 3) (by decide) (i + 1) (by omega) rfl hNb (t_L_law_399 y8 (Nat.le_of_ble_eq_true rfl) (Nat.le_of_ble_eq_true rfl) (Nat.le_of_ble_eq_true rfl) (sp_X8_strikes ((gv_x ε 3).2 (i + 1)) hM hro hua hkn (fun h' => absurd e (h' l (by omega))) (fun l' hl' e' q' => ?_) (fun l' hl' e' q' => ?_))))))))
    · refine t_L_law_402 (fun _ => ?_) (fun h => absurd rfl h)
      exact kk sw ⟨_, _, _, _, _, _, _, _, _, _, _, _, _, _, _, _, _, _, _, _, hC, hM, ho, hR, hT, hkn, hua, hS, hF, hI0, hI1, hch⟩
    · exfalso
      have el : l' = l := nI_inj (by omega) (by omega) (e'.symm.trans e)
      rw [el, hlen l hl] at q'
      omega
  · have hM1 := hM.keep m1
    obtain ⟨yfs, y8, yl, y0, y1, y2, y3, y4, y5, y6, y7, y17, y18, y19, yN, yU, yK, yP, yT, yA, yB⟩ := hM1.view
    have er := hlen l hl
    have h8 := ho.2.2.2.2.2.1 l hl
    refine t_L_law_393 (t_L_law_394 (t_L_law_395 (t_L_law_396 (t_L_law_397N (t_L_law_398_x (j := 3) (by decide) (i + 1) (by omega) rfl hNb (t_L_law_399 y8 (Nat.le_of_ble_eq_true rfl) (Nat.le_of_ble_eq_true rfl) (Nat.le_of_ble_eq_true rfl) (sp_X8_strikes ((gv_x ε 3).2 (i + 1)) hM1 hro hua hkn (fun h' => absurd e (h' l (by omega))) (fun l' hl' e' q' => ?_) (fun l' hl' e' q' U' sw2 hU hM2 m2 => ?_))))))))
    · exfalso
      have el : l' = l := nI_inj (by omega) (by omega) (e'.symm.trans e)
      rw [el, er] at q'
      omega
    · have el : l' = l := nI_inj (by omega) (by omega) (e'.symm.trans e)
      subst el
      have ek := hD.1
      subst ek
      have eg : r (26 + 8 * l' + (s.2.2.1 l' - 1)) = s.2.2.2.1 (8 * l' + (s.2.2.1 l' - 1)) := by rw [hR.2.2.2.2 l' _ (by omega) (by omega), if_pos ⟨hl, by omega⟩]
      have hg := ho.2.2.2.2.2.2 l' (s.2.2.1 l' - 1) hl (by omega)
      have hR' : Rel (shCh s l') (skR r l') := Rel_ch hR ho hl q
      have h22 : skR r l' (22 + l') = s.2.2.1 l' - 1 := by
        unfold skR
        rw [up_ne (by omega), up_at, er]
      have h21 : skR r l' 21 = r 21 := by
        unfold skR
        rw [up_ne (by omega), up_ne (by omega)]
      have ht : ∀ i, i < 58 → r i = apR (skR r l') l' (s.2.2.2.1 (8 * l' + (s.2.2.1 l' - 1))) i := by
        intro i hi
        unfold apR
        rw [h22, show s.2.2.1 l' - 1 + 1 = s.2.2.1 l' by omega]
        by_cases z2 : i = 22 + l'
        · rw [z2, up_at, er]
        · rw [up_ne z2]
          by_cases z1 : i = 26 + 8 * l' + (s.2.2.1 l' - 1)
          · rw [z1, up_at, eg]
          · rw [up_ne z1]
            unfold skR
            rw [er, up_ne z1, up_ne z2]
      have hch' := chn_push hch hua hD hU (r' := skR r l') (Or.inr (Or.inr (Or.inr (Or.inl ⟨rfl, by omega, by rw [h21]; omega, by rw [h22]; omega, hg⟩)))) ht hkn
      rw [er, eg]
      refine t_L_law_402 (fun _ => ?_) (fun h => absurd rfl h)
      exact kk sw2 ⟨_, _, _, _, _, _, _, _, _, _, _, _, _, _, _, _, _, _, _, _, hC1.mo m2, hM2, shOk_ch ho hl, hR', hT, Nat.min_le_right _ _, Nat.mod_lt _ (by decide), hS, hF, hI0, hI1, hch'⟩
theorem lc_sets (hN : i + 4 ≤ (gv_x ε 3).1) (hNb : (gv_x ε 3).1 < 2 ^ 31) (hI : Inv sw) (kk : ∀ sw', Inv sw' → gv_G ε room_1 m_L_law n0 Z 914 [some (.ref 1003), some (.ref 0), some (.ref 44), some (.int (nI i))] [] sw' 55 1869) : gv_G ε room_1 m_L_law n0 Z 407 [some (.ref 1003), some (.ref 0), some (.ref 44), some (.int (nI i))] [] sw 55 1869 := by
  obtain ⟨s, dr, i0, i1, T, n, x, K, P, W, kn, sk, ln, nu, fl, r, U, fk, Kp, ua, hC, hM, ho, hR, hT, hkn, hua, hS, hF, hI0, hI1, hch⟩ := hI
  have h7 := hC.h7
  have hro := hR.ok ho
  have e21 : r 21 = s.2.2.2.2 := hR.2.2.1
  have hl4 := ho.2.2.2.2.1
  have p3 : ∀ p w, rgOk p w → p < 3 ∧ w < 100 := fun p w h => by
    rcases h with ⟨a, b⟩ | ⟨a, b⟩ | ⟨a, b⟩ <;> omega
  refine t_L_law_407 (t_L_law_408 (t_L_law_409 (t_L_law_410 (t_L_law_411N (t_L_law_412_x (j := 3) (by decide) (i + 1) (by omega) rfl hNb (t_L_law_413 (t_L_law_414 (t_L_law_415 (t_L_law_416N (t_L_law_417_x (j := 3) (by decide) (i + 2) (by omega) rfl hNb (t_L_law_418 h7 (Nat.le_of_ble_eq_true rfl) (Nat.le_of_ble_eq_true rfl) (Nat.le_of_ble_eq_true rfl) (sp_X7_sets ((gv_x ε 3).2 (i + 1)) ((gv_x ε 3).2 (i + 2)) hC ho hkn (fun h => ?_) (fun p w hr e1 e2 q => ?_) (fun p w hr e1 e2 q K' P' W' kn' sw1 hD hC1 m1 => ?_)))))))))))))
  · obtain ⟨yfs, y8, yl, y0, y1, y2, y3, y4, y5, y6, y7, y17, y18, y19, yN, yU, yK, yP, yT, yA, yB⟩ := hM.view
    refine t_L_law_421 (t_L_law_422 (t_L_law_423 (t_L_law_424 (t_L_law_425N (t_L_law_426_x (j := 3) (by decide) (i + 1) (by omega) rfl hNb (t_L_law_427 (t_L_law_428 (t_L_law_429 (t_L_law_430N (t_L_law_431_x (j := 3) (by decide) (i + 2) (by omega) rfl hNb (t_L_law_432 y8 (Nat.le_of_ble_eq_true rfl) (Nat.le_of_ble_eq_true rfl) (Nat.le_of_ble_eq_true rfl) (sp_X8_sets ((gv_x ε 3).2 (i + 1)) ((gv_x ε 3).2 (i + 2)) hM hro hua hkn (fun h' => ?_) (fun p w hr e1 e2 => absurd ⟨p, w, hr, e1, e2⟩ h) (fun p w hr e1 e2 => absurd ⟨p, w, hr, e1, e2⟩ h)))))))))))))
    refine t_L_law_435 (fun _ => ?_) (fun h => absurd rfl h)
    exact kk sw ⟨_, _, _, _, _, _, _, _, _, _, _, _, _, _, _, _, _, _, _, _, hC, hM, ho, hR, hT, hkn, hua, hS, hF, hI0, hI1, hch⟩
  · obtain ⟨yfs, y8, yl, y0, y1, y2, y3, y4, y5, y6, y7, y17, y18, y19, yN, yU, yK, yP, yT, yA, yB⟩ := hM.view
    have g3 := p3 p w hr
    refine t_L_law_421 (t_L_law_422 (t_L_law_423 (t_L_law_424 (t_L_law_425N (t_L_law_426_x (j := 3) (by decide) (i + 1) (by omega) rfl hNb (t_L_law_427 (t_L_law_428 (t_L_law_429 (t_L_law_430N (t_L_law_431_x (j := 3) (by decide) (i + 2) (by omega) rfl hNb (t_L_law_432 y8 (Nat.le_of_ble_eq_true rfl) (Nat.le_of_ble_eq_true rfl) (Nat.le_of_ble_eq_true rfl) (sp_X8_sets ((gv_x ε 3).2 (i + 1)) ((gv_x ε 3).2 (i + 2)) hM hro hua hkn (fun h' => absurd ⟨p, w, hr, e1, e2⟩ h') (fun p' w' hr' e1' e2' q' => ?_) (fun p' w' hr' e1' e2' q' => ?_)))))))))))))
    · refine t_L_law_435 (fun _ => ?_) (fun h => absurd rfl h)
      exact kk sw ⟨_, _, _, _, _, _, _, _, _, _, _, _, _, _, _, _, _, _, _, _, hC, hM, ho, hR, hT, hkn, hua, hS, hF, hI0, hI1, hch⟩
    · exfalso
      have g4 := p3 p' w' hr'
      have ea : p' = p := nI_inj (by omega) (by omega) (e1'.symm.trans e1)
      have ew : w' = w := nI_inj (by omega) (by omega) (e2'.symm.trans e2)
      rw [ea, ew, hR.1 p g3.1] at q'
      exact q' q
  · have hM1 := hM.keep m1
    obtain ⟨yfs, y8, yl, y0, y1, y2, y3, y4, y5, y6, y7, y17, y18, y19, yN, yU, yK, yP, yT, yA, yB⟩ := hM1.view
    have g3 := p3 p w hr
    have er := hR.1 p g3.1
    refine t_L_law_421 (t_L_law_422 (t_L_law_423 (t_L_law_424 (t_L_law_425N (t_L_law_426_x (j := 3) (by decide) (i + 1) (by omega) rfl hNb (t_L_law_427 (t_L_law_428 (t_L_law_429 (t_L_law_430N (t_L_law_431_x (j := 3) (by decide) (i + 2) (by omega) rfl hNb (t_L_law_432 y8 (Nat.le_of_ble_eq_true rfl) (Nat.le_of_ble_eq_true rfl) (Nat.le_of_ble_eq_true rfl) (sp_X8_sets ((gv_x ε 3).2 (i + 1)) ((gv_x ε 3).2 (i + 2)) hM1 hro hua hkn (fun h' => absurd ⟨p, w, hr, e1, e2⟩ h') (fun p' w' hr' e1' e2' q' => ?_) (fun p' w' hr' e1' e2' q' U' sw2 hU hM2 m2 => ?_)))))))))))))
    · exfalso
      have g4 := p3 p' w' hr'
      have ea : p' = p := nI_inj (by omega) (by omega) (e1'.symm.trans e1)
      have ew : w' = w := nI_inj (by omega) (by omega) (e2'.symm.trans e2)
      rw [ea, ew, er] at q'
      exact q q'
    · have g4 := p3 p' w' hr'
      have ea : p' = p := nI_inj (by omega) (by omega) (e1'.symm.trans e1)
      have ew : w' = w := nI_inj (by omega) (by omega) (e2'.symm.trans e2)
      subst ea
      subst ew
      have ek := hD.1
      subst ek
      have hold : rgOk p' (s.1 p') := by
        obtain ⟨o1, o2, o3, _⟩ := ho
        have : p' = 0 ∨ p' = 1 ∨ p' = 2 := by omega
        rcases this with e | e | e
        · exact Or.inl ⟨e, by rw [e]; exact o1⟩
        · exact Or.inr (Or.inl ⟨e, by rw [e]; exact o2⟩)
        · exact Or.inr (Or.inr ⟨e, by rw [e]; exact o3.1, by rw [e]; exact o3.2⟩)
      have hch' := chn_push hch hua hD hU (r' := up r p' w') (Or.inr (Or.inr (Or.inr (Or.inr ⟨rfl, g3.1, hold⟩)))) (fun i _ => up_back er.symm i) hkn
      rw [er]
      refine t_L_law_435 (fun _ => ?_) (fun h => absurd rfl h)
      exact kk sw2 ⟨_, _, _, _, _, _, _, _, _, _, _, _, _, _, _, _, _, _, _, _, hC1.mo m2, hM2, shOk_set ho hr, Rel_set hR g3.1, hT, Nat.min_le_right _ _, Nat.mod_lt _ (by decide), hS, hF, hI0, hI1, hch'⟩
theorem lc_undo (hN : i + 4 ≤ (gv_x ε 3).1) (hNb : (gv_x ε 3).1 < 2 ^ 31) (hI : Inv sw) (kk : ∀ sw', Inv sw' → gv_G ε room_1 m_L_law n0 Z 914 [some (.ref 1003), some (.ref 0), some (.ref 44), some (.int (nI i))] [] sw' 55 1869) : gv_G ε room_1 m_L_law n0 Z 440 [some (.ref 1003), some (.ref 0), some (.ref 44), some (.int (nI i))] [] sw 55 1869 := by
  obtain ⟨s, dr, i0, i1, T, n, x, K, P, W, kn, sk, ln, nu, fl, r, U, fk, Kp, ua, hC, hM, ho, hR, hT, hkn, hua, hS, hF, hI0, hI1, hch⟩ := hI
  have h7 := hC.h7
  have hro := hR.ok ho
  have e21 : r 21 = s.2.2.2.2 := hR.2.2.1
  have hl4 := ho.2.2.2.2.1
  refine t_L_law_440 (t_L_law_441 h7 (Nat.le_of_ble_eq_true rfl) (Nat.le_of_ble_eq_true rfl) (Nat.le_of_ble_eq_true rfl) (sp_X7_undo hC ho hkn (fun q => vd_S hR (by have := (hch 0 q).1; exact this)) (fun q => ?_) (fun q sw1 hC1 m1 => ?_)))
  · obtain ⟨yfs, y8, yl, y0, y1, y2, y3, y4, y5, y6, y7, y17, y18, y19, yN, yU, yK, yP, yT, yA, yB⟩ := hM.view
    refine t_L_law_444 (t_L_law_445 y8 (Nat.le_of_ble_eq_true rfl) (Nat.le_of_ble_eq_true rfl) (Nat.le_of_ble_eq_true rfl) (sp_X8_undo hM hua hkn (fun q' => ?_) (fun q' => absurd q (by omega))))
    refine t_L_law_448 (fun _ => ?_) (fun h => absurd rfl h)
    exact kk sw ⟨_, _, _, _, _, _, _, _, _, _, _, _, _, _, _, _, _, _, _, _, hC, hM, ho, hR, hT, hkn, hua, hS, hF, hI0, hI1, hch⟩
  · have hM1 := hM.keep m1
    obtain ⟨yfs, y8, yl, y0, y1, y2, y3, y4, y5, y6, y7, y17, y18, y19, yN, yU, yK, yP, yT, yA, yB⟩ := hM1.view
    refine t_L_law_444 (t_L_law_445 y8 (Nat.le_of_ble_eq_true rfl) (Nat.le_of_ble_eq_true rfl) (Nat.le_of_ble_eq_true rfl) (sp_X8_undo hM1 hua hkn (fun q' => absurd q (by omega)) (fun q' r' sw2 hr' hM2 m2 => ?_)))
    obtain ⟨g1, g2⟩ := hch 0 q
    obtain ⟨t1, t2⟩ := tb_Rel hR ho g1
    have hR' := t1.cong (r' := r') (fun i hi => (hr' i hi).trans (g2 i hi))
    have hch' := chn_pop hch hua hkn hr'
    refine t_L_law_448 (fun _ => ?_) (fun h => absurd rfl h)
    exact kk sw2 ⟨_, _, _, _, _, _, _, _, _, _, _, _, _, _, _, _, _, _, _, _, hC1.mo m2, hM2, t2, hR', hT, Nat.le_trans (Nat.sub_le _ _) hkn, Nat.mod_lt _ (by decide), hS, hF, hI0, hI1, hch'⟩
theorem lc_passes (hN : i + 4 ≤ (gv_x ε 3).1) (hNb : (gv_x ε 3).1 < 2 ^ 31) (hI : Inv sw) (kk : ∀ sw', Inv sw' → gv_G ε room_1 m_L_law n0 Z 914 [some (.ref 1003), some (.ref 0), some (.ref 44), some (.int (nI i))] [] sw' 55 1869) : gv_G ε room_1 m_L_law n0 Z 453 [some (.ref 1003), some (.ref 0), some (.ref 44), some (.int (nI i))] [] sw 55 1869 := by
  obtain ⟨s, dr, i0, i1, T, n, x, K, P, W, kn, sk, ln, nu, fl, r, U, fk, Kp, ua, hC, hM, ho, hR, hT, hkn, hua, hS, hF, hI0, hI1, hch⟩ := hI
  have h7 := hC.h7
  have hro := hR.ok ho
  have e21 : r 21 = s.2.2.2.2 := hR.2.2.1
  have hl4 := ho.2.2.2.2.1
  refine t_L_law_453 (t_L_law_454 (t_L_law_455 (t_L_law_456 (t_L_law_457N (t_L_law_458_x (j := 3) (by decide) (i + 1) (by omega) rfl hNb (t_L_law_459 h7 (Nat.le_of_ble_eq_true rfl) (Nat.le_of_ble_eq_true rfl) (Nat.le_of_ble_eq_true rfl) (sp_X7_passes ((gv_x ε 3).2 (i + 1)) (hC.cls ho) hC.scr (fun l hl e sw1 a b => ?_) (fun h => ?_))))))))
  · have hM1 := hM.keep b.s44
    obtain ⟨yfs, y8, yl, y0, y1, y2, y3, y4, y5, y6, y7, y17, y18, y19, yN, yU, yK, yP, yT, yA, yB⟩ := hM1.view
    refine t_L_law_462 (t_L_law_463 (t_L_law_464 (t_L_law_465 (t_L_law_466N (t_L_law_467_x (j := 3) (by decide) (i + 1) (by omega) rfl hNb (t_L_law_468 y8 (Nat.le_of_ble_eq_true rfl) (Nat.le_of_ble_eq_true rfl) (Nat.le_of_ble_eq_true rfl) (sp_X8_passes ((gv_x ε 3).2 (i + 1)) hM1.qm hro (fun l' hl' e' => ?_) (fun h' => absurd e (h' l (by omega))))))))))
    have el : l' = l := nI_inj (by omega) (by omega) (e'.symm.trans e)
    rw [el, hR.1 1 (by decide), ← npN_cong (ink4 hR ho (by omega))]
    refine t_L_law_471 (fun _ => ?_) (fun h => absurd rfl h)
    exact kk sw1 ⟨_, _, _, _, _, _, _, _, _, _, _, _, _, _, _, _, _, _, _, _, hC.q a b, hM1, ho, hR, hT, hkn, hua, hS, hF, hI0, hI1, hch⟩
  · obtain ⟨yfs, y8, yl, y0, y1, y2, y3, y4, y5, y6, y7, y17, y18, y19, yN, yU, yK, yP, yT, yA, yB⟩ := hM.view
    refine t_L_law_462 (t_L_law_463 (t_L_law_464 (t_L_law_465 (t_L_law_466N (t_L_law_467_x (j := 3) (by decide) (i + 1) (by omega) rfl hNb (t_L_law_468 y8 (Nat.le_of_ble_eq_true rfl) (Nat.le_of_ble_eq_true rfl) (Nat.le_of_ble_eq_true rfl) (sp_X8_passes ((gv_x ε 3).2 (i + 1)) hM.qm hro (fun l' hl' e' => absurd e' (h l' (by omega))) (fun h' => ?_))))))))
    refine t_L_law_471 (fun _ => ?_) (fun h => absurd rfl h)
    exact kk sw ⟨_, _, _, _, _, _, _, _, _, _, _, _, _, _, _, _, _, _, _, _, hC, hM, ho, hR, hT, hkn, hua, hS, hF, hI0, hI1, hch⟩
theorem lc_pass (hN : i + 4 ≤ (gv_x ε 3).1) (hNb : (gv_x ε 3).1 < 2 ^ 31) (hI : Inv sw) (kk : ∀ sw', Inv sw' → gv_G ε room_1 m_L_law n0 Z 914 [some (.ref 1003), some (.ref 0), some (.ref 44), some (.int (nI i))] [] sw' 55 1869) : gv_G ε room_1 m_L_law n0 Z 476 [some (.ref 1003), some (.ref 0), some (.ref 44), some (.int (nI i))] [] sw 55 1869 := by
  obtain ⟨s, dr, i0, i1, T, n, x, K, P, W, kn, sk, ln, nu, fl, r, U, fk, Kp, ua, hC, hM, ho, hR, hT, hkn, hua, hS, hF, hI0, hI1, hch⟩ := hI
  have h7 := hC.h7
  have hro := hR.ok ho
  have e21 : r 21 = s.2.2.2.2 := hR.2.2.1
  have hl4 := ho.2.2.2.2.1
  refine t_L_law_476 (t_L_law_477 (t_L_law_478 (t_L_law_479 (t_L_law_480N (t_L_law_481_x (j := 3) (by decide) (i + 1) (by omega) rfl hNb (t_L_law_482 (t_L_law_483 (t_L_law_484 (t_L_law_485N (t_L_law_486_x (j := 3) (by decide) (i + 2) (by omega) rfl hNb (t_L_law_487 (t_L_law_488 (t_L_law_489 (t_L_law_490N (t_L_law_491_x (j := 3) (by decide) (i + 3) (by omega) rfl hNb (t_L_law_492 h7 (Nat.le_of_ble_eq_true rfl) (Nat.le_of_ble_eq_true rfl) (Nat.le_of_ble_eq_true rfl) (sp_X7_pass ((gv_x ε 3).2 (i + 1)) ((gv_x ε 3).2 (i + 2)) ((gv_x ε 3).2 (i + 3)) (hC.cls ho) hC.scr (fun l k c hl hk hc e1 e2 e3 sw1 a b => ?_) (fun h => ?_))))))))))))))))))
  · have hM1 := hM.keep b.s44
    obtain ⟨yfs, y8, yl, y0, y1, y2, y3, y4, y5, y6, y7, y17, y18, y19, yN, yU, yK, yP, yT, yA, yB⟩ := hM1.view
    refine t_L_law_495 (t_L_law_496 (t_L_law_497 (t_L_law_498 (t_L_law_499N (t_L_law_500_x (j := 3) (by decide) (i + 1) (by omega) rfl hNb (t_L_law_501 (t_L_law_502 (t_L_law_503 (t_L_law_504N (t_L_law_505_x (j := 3) (by decide) (i + 2) (by omega) rfl hNb (t_L_law_506 (t_L_law_507 (t_L_law_508 (t_L_law_509N (t_L_law_510_x (j := 3) (by decide) (i + 3) (by omega) rfl hNb (t_L_law_511 y8 (Nat.le_of_ble_eq_true rfl) (Nat.le_of_ble_eq_true rfl) (Nat.le_of_ble_eq_true rfl) (sp_X8_pass ((gv_x ε 3).2 (i + 1)) ((gv_x ε 3).2 (i + 2)) ((gv_x ε 3).2 (i + 3)) hM1.qm hro (fun l' k' c' hl' hk' hc' e1' e2' e3' => ?_) (fun h' => absurd ⟨l, k, c, by omega, hk, hc, e1, e2, e3⟩ h'))))))))))))))))))
    have el : l' = l := nI_inj (by omega) (by omega) (e1'.symm.trans e1)
    have ek : k' = k := nI_inj (by omega) (by omega) (e2'.symm.trans e2)
    have ec : c' = c := nI_inj (by omega) (by omega) (e3'.symm.trans e3)
    subst el
    subst ek
    subst ec
    have ed := dotB_cong (ink4 hR ho (l := l') (by omega)) k'
    have ev : (if dotB (inkN s l') k' c' = true then nI (pas (dotB (inkN s l') k') (s.1 1) c') else -9) = (if dotB (inkR r l') k' c' = true then nI (pas (dotB (inkR r l') k') (r 1) c') else -9 : Int32) := by
      by_cases z : dotB (inkN s l') k' c' = true
      · rw [if_pos z, if_pos (by rw [← ed c' hc]; exact z), hR.1 1 (by decide), pas_cong ed c' hc z]
      · rw [if_neg z, if_neg (by rw [← ed c' hc]; exact z)]
    rw [ev]
    refine t_L_law_514 (fun _ => ?_) (fun h => absurd rfl h)
    exact kk sw1 ⟨_, _, _, _, _, _, _, _, _, _, _, _, _, _, _, _, _, _, _, _, hC.q a b, hM1, ho, hR, hT, hkn, hua, hS, hF, hI0, hI1, hch⟩
  · obtain ⟨yfs, y8, yl, y0, y1, y2, y3, y4, y5, y6, y7, y17, y18, y19, yN, yU, yK, yP, yT, yA, yB⟩ := hM.view
    refine t_L_law_495 (t_L_law_496 (t_L_law_497 (t_L_law_498 (t_L_law_499N (t_L_law_500_x (j := 3) (by decide) (i + 1) (by omega) rfl hNb (t_L_law_501 (t_L_law_502 (t_L_law_503 (t_L_law_504N (t_L_law_505_x (j := 3) (by decide) (i + 2) (by omega) rfl hNb (t_L_law_506 (t_L_law_507 (t_L_law_508 (t_L_law_509N (t_L_law_510_x (j := 3) (by decide) (i + 3) (by omega) rfl hNb (t_L_law_511 y8 (Nat.le_of_ble_eq_true rfl) (Nat.le_of_ble_eq_true rfl) (Nat.le_of_ble_eq_true rfl) (sp_X8_pass ((gv_x ε 3).2 (i + 1)) ((gv_x ε 3).2 (i + 2)) ((gv_x ε 3).2 (i + 3)) hM.qm hro (fun l' k' c' hl' hk' hc' e1' e2' e3' => absurd ⟨l', k', c', by omega, hk', hc', e1', e2', e3'⟩ h) (fun h' => ?_))))))))))))))))))
    refine t_L_law_514 (fun _ => ?_) (fun h => absurd rfl h)
    exact kk sw ⟨_, _, _, _, _, _, _, _, _, _, _, _, _, _, _, _, _, _, _, _, hC, hM, ho, hR, hT, hkn, hua, hS, hF, hI0, hI1, hch⟩
theorem lc_span (hN : i + 4 ≤ (gv_x ε 3).1) (hNb : (gv_x ε 3).1 < 2 ^ 31) (hI : Inv sw) (kk : ∀ sw', Inv sw' → gv_G ε room_1 m_L_law n0 Z 914 [some (.ref 1003), some (.ref 0), some (.ref 44), some (.int (nI i))] [] sw' 55 1869) : gv_G ε room_1 m_L_law n0 Z 519 [some (.ref 1003), some (.ref 0), some (.ref 44), some (.int (nI i))] [] sw 55 1869 := by
  obtain ⟨s, dr, i0, i1, T, n, x, K, P, W, kn, sk, ln, nu, fl, r, U, fk, Kp, ua, hC, hM, ho, hR, hT, hkn, hua, hS, hF, hI0, hI1, hch⟩ := hI
  have h7 := hC.h7
  have hro := hR.ok ho
  have e21 : r 21 = s.2.2.2.2 := hR.2.2.1
  have hl4 := ho.2.2.2.2.1
  have hnp : ∀ l, l < 4 → npN (inkN s l) (s.1 1) 8 = npN (inkR r l) (r 1) 8 := fun l hl => by rw [hR.1 1 (by decide)]; exact npN_cong (ink4 hR ho hl) 8
  have hnl : ∀ l, l < 4 → npN (inkN s l) (s.1 1) 8 ≤ 1000 := fun l hl => by
    have := npN_le (J := inkN s l) (r := s.1 1) 8
    have := ho.2.1
    omega
  refine t_L_law_519 (t_L_law_520 (t_L_law_521 (t_L_law_522 (t_L_law_523N (t_L_law_524_x (j := 3) (by decide) (i + 1) (by omega) rfl hNb (t_L_law_525 (t_L_law_526 (t_L_law_527 (t_L_law_528N (t_L_law_529_x (j := 3) (by decide) (i + 2) (by omega) rfl hNb (t_L_law_530 (t_L_law_531 (t_L_law_532 (t_L_law_533N (t_L_law_534_x (j := 3) (by decide) (i + 3) (by omega) rfl hNb (t_L_law_535 h7 (Nat.le_of_ble_eq_true rfl) (Nat.le_of_ble_eq_true rfl) (Nat.le_of_ble_eq_true rfl) (sp_X7_span ((gv_x ε 3).2 (i + 1)) ((gv_x ε 3).2 (i + 2)) ((gv_x ε 3).2 (i + 3)) (hC.cls ho) hC.scr (fun l p w hl hp hw e1 e2 e3 sw1 a b => ?_) (fun h sw1 a b => ?_))))))))))))))))))
  · have hM1 := hM.keep b.s44
    obtain ⟨yfs, y8, yl, y0, y1, y2, y3, y4, y5, y6, y7, y17, y18, y19, yN, yU, yK, yP, yT, yA, yB⟩ := hM1.view
    have hp9 := hnl l (by omega)
    refine t_L_law_538 (t_L_law_539 (t_L_law_540 (t_L_law_541 (t_L_law_542N (t_L_law_543_x (j := 3) (by decide) (i + 1) (by omega) rfl hNb (t_L_law_544 (t_L_law_545 (t_L_law_546 (t_L_law_547N (t_L_law_548_x (j := 3) (by decide) (i + 2) (by omega) rfl hNb (t_L_law_549 (t_L_law_550 (t_L_law_551 (t_L_law_552N (t_L_law_553_x (j := 3) (by decide) (i + 3) (by omega) rfl hNb (t_L_law_554 y8 (Nat.le_of_ble_eq_true rfl) (Nat.le_of_ble_eq_true rfl) (Nat.le_of_ble_eq_true rfl) (sp_X8_span ((gv_x ε 3).2 (i + 1)) ((gv_x ε 3).2 (i + 2)) ((gv_x ε 3).2 (i + 3)) hM1.qm hro (fun l' p' w' hl' hp' hw' e1' e2' e3' => ?_) (fun h' => absurd ⟨l, p, w, by omega, by rw [← hnp l (by omega)]; exact hp, hw, e1, e2, e3⟩ h'))))))))))))))))))
    have el : l' = l := nI_inj (by omega) (by omega) (e1'.symm.trans e1)
    subst el
    rw [← hnp l' (by omega)] at hp'
    have ep : p' = p := nI_inj (by omega) (by omega) (e2'.symm.trans e2)
    have ew : w' = w := nI_inj (by omega) (by omega) (e3'.symm.trans e3)
    rw [ep, ew, ← loS_eq hR ho (by omega), ← hiS_eq hR ho (by omega)]
    refine t_L_law_557 (fun _ => ?_) (fun h => absurd rfl h)
    exact kk sw1 ⟨_, _, _, _, _, _, _, _, _, _, _, _, _, _, _, _, _, _, _, _, hC.q a b, hM1, ho, hR, hT, hkn, hua, hS, hF, hI0, hI1, hch⟩
  · have hM1 := hM.keep b.s44
    obtain ⟨yfs, y8, yl, y0, y1, y2, y3, y4, y5, y6, y7, y17, y18, y19, yN, yU, yK, yP, yT, yA, yB⟩ := hM1.view
    refine t_L_law_538 (t_L_law_539 (t_L_law_540 (t_L_law_541 (t_L_law_542N (t_L_law_543_x (j := 3) (by decide) (i + 1) (by omega) rfl hNb (t_L_law_544 (t_L_law_545 (t_L_law_546 (t_L_law_547N (t_L_law_548_x (j := 3) (by decide) (i + 2) (by omega) rfl hNb (t_L_law_549 (t_L_law_550 (t_L_law_551 (t_L_law_552N (t_L_law_553_x (j := 3) (by decide) (i + 3) (by omega) rfl hNb (t_L_law_554 y8 (Nat.le_of_ble_eq_true rfl) (Nat.le_of_ble_eq_true rfl) (Nat.le_of_ble_eq_true rfl) (sp_X8_span ((gv_x ε 3).2 (i + 1)) ((gv_x ε 3).2 (i + 2)) ((gv_x ε 3).2 (i + 3)) hM1.qm hro (fun l' p' w' hl' hp' hw' e1' e2' e3' => absurd ⟨l', p', w', by omega, by rw [hnp l' (by omega)]; exact hp', hw', e1', e2', e3'⟩ h) (fun h' => ?_))))))))))))))))))
    refine t_L_law_557 (fun _ => ?_) (fun h => absurd rfl h)
    exact kk sw1 ⟨_, _, _, _, _, _, _, _, _, _, _, _, _, _, _, _, _, _, _, _, hC.q a b, hM1, ho, hR, hT, hkn, hua, hS, hF, hI0, hI1, hch⟩
theorem lc_goes (hN : i + 4 ≤ (gv_x ε 3).1) (hNb : (gv_x ε 3).1 < 2 ^ 31) (hI : Inv sw) (kk : ∀ sw', Inv sw' → gv_G ε room_1 m_L_law n0 Z 914 [some (.ref 1003), some (.ref 0), some (.ref 44), some (.int (nI i))] [] sw' 55 1869) : gv_G ε room_1 m_L_law n0 Z 562 [some (.ref 1003), some (.ref 0), some (.ref 44), some (.int (nI i))] [] sw 55 1869 := by
  obtain ⟨s, dr, i0, i1, T, n, x, K, P, W, kn, sk, ln, nu, fl, r, U, fk, Kp, ua, hC, hM, ho, hR, hT, hkn, hua, hS, hF, hI0, hI1, hch⟩ := hI
  have h7 := hC.h7
  have hro := hR.ok ho
  have e21 : r 21 = s.2.2.2.2 := hR.2.2.1
  have hl4 := ho.2.2.2.2.1
  refine t_L_law_562 (t_L_law_563 (t_L_law_564 (t_L_law_565 (t_L_law_566N (t_L_law_567_x (j := 3) (by decide) (i + 1) (by omega) rfl hNb (t_L_law_568 (t_L_law_569 (t_L_law_570 (t_L_law_571N (t_L_law_572_x (j := 3) (by decide) (i + 2) (by omega) rfl hNb (t_L_law_573 h7 (Nat.le_of_ble_eq_true rfl) (Nat.le_of_ble_eq_true rfl) (Nat.le_of_ble_eq_true rfl) (sp_X7_goes ((gv_x ε 3).2 (i + 1)) ((gv_x ε 3).2 (i + 2)) (hC.cls ho) hC.scr (fun l p hl hp e1 e2 sw1 a b => ?_) (fun h => ?_)))))))))))))
  · have hM1 := hM.keep b.s44
    obtain ⟨yfs, y8, yl, y0, y1, y2, y3, y4, y5, y6, y7, y17, y18, y19, yN, yU, yK, yP, yT, yA, yB⟩ := hM1.view
    refine t_L_law_576 (t_L_law_577 (t_L_law_578 (t_L_law_579 (t_L_law_580N (t_L_law_581_x (j := 3) (by decide) (i + 1) (by omega) rfl hNb (t_L_law_582 (t_L_law_583 (t_L_law_584 (t_L_law_585N (t_L_law_586_x (j := 3) (by decide) (i + 2) (by omega) rfl hNb (t_L_law_587 y8 (Nat.le_of_ble_eq_true rfl) (Nat.le_of_ble_eq_true rfl) (Nat.le_of_ble_eq_true rfl) (spw_goes ((gv_x ε 3).2 (i + 1)) ((gv_x ε 3).2 (i + 2)) hM1 hro (fun l' p' hl' hp' e1' e2' sw2 hM2 m2 => ?_) (fun h' => absurd ⟨l, p, by omega, hp, e1, e2⟩ h')))))))))))))
    have el : l' = l := nI_inj (by omega) (by omega) (e1'.symm.trans e1)
    have ep : p' = p := nI_inj hp' hp (e2'.symm.trans e2)
    rw [el, ep, ← trn_eq hR ho, ← npS_eq hR ho]
    refine t_L_law_590 (fun _ => ?_) (fun h => absurd rfl h)
    exact kk sw2 ⟨_, _, _, _, _, _, _, _, _, _, _, _, _, _, _, _, _, _, _, _, (hC.q a b).mo m2, hM2, ho, hR, hT, hkn, hua, hS, hF, hI0, hI1, hch⟩
  · obtain ⟨yfs, y8, yl, y0, y1, y2, y3, y4, y5, y6, y7, y17, y18, y19, yN, yU, yK, yP, yT, yA, yB⟩ := hM.view
    refine t_L_law_576 (t_L_law_577 (t_L_law_578 (t_L_law_579 (t_L_law_580N (t_L_law_581_x (j := 3) (by decide) (i + 1) (by omega) rfl hNb (t_L_law_582 (t_L_law_583 (t_L_law_584 (t_L_law_585N (t_L_law_586_x (j := 3) (by decide) (i + 2) (by omega) rfl hNb (t_L_law_587 y8 (Nat.le_of_ble_eq_true rfl) (Nat.le_of_ble_eq_true rfl) (Nat.le_of_ble_eq_true rfl) (spw_goes ((gv_x ε 3).2 (i + 1)) ((gv_x ε 3).2 (i + 2)) hM hro (fun l' p' hl' hp' e1' e2' => absurd ⟨l', p', by omega, hp', e1', e2'⟩ h) (fun h' => ?_)))))))))))))
    refine t_L_law_590 (fun _ => ?_) (fun h => absurd rfl h)
    exact kk sw ⟨_, _, _, _, _, _, _, _, _, _, _, _, _, _, _, _, _, _, _, _, hC, hM, ho, hR, hT, hkn, hua, hS, hF, hI0, hI1, hch⟩
theorem lc_stands (hN : i + 4 ≤ (gv_x ε 3).1) (hNb : (gv_x ε 3).1 < 2 ^ 31) (hI : Inv sw) (kk : ∀ sw', Inv sw' → gv_G ε room_1 m_L_law n0 Z 914 [some (.ref 1003), some (.ref 0), some (.ref 44), some (.int (nI i))] [] sw' 55 1869) : gv_G ε room_1 m_L_law n0 Z 595 [some (.ref 1003), some (.ref 0), some (.ref 44), some (.int (nI i))] [] sw 55 1869 := by
  obtain ⟨s, dr, i0, i1, T, n, x, K, P, W, kn, sk, ln, nu, fl, r, U, fk, Kp, ua, hC, hM, ho, hR, hT, hkn, hua, hS, hF, hI0, hI1, hch⟩ := hI
  have h7 := hC.h7
  have hro := hR.ok ho
  have e21 : r 21 = s.2.2.2.2 := hR.2.2.1
  have hl4 := ho.2.2.2.2.1
  refine t_L_law_595 (t_L_law_596 (t_L_law_597 (t_L_law_598 (t_L_law_599N (t_L_law_600_x (j := 3) (by decide) (i + 1) (by omega) rfl hNb (t_L_law_601 (t_L_law_602 (t_L_law_603 (t_L_law_604N (t_L_law_605_x (j := 3) (by decide) (i + 2) (by omega) rfl hNb (t_L_law_606 (t_L_law_607 (t_L_law_608 (t_L_law_609N (t_L_law_610_x (j := 3) (by decide) (i + 3) (by omega) rfl hNb (t_L_law_611 h7 (Nat.le_of_ble_eq_true rfl) (Nat.le_of_ble_eq_true rfl) (Nat.le_of_ble_eq_true rfl) (sp_X7_stands ((gv_x ε 3).2 (i + 1)) ((gv_x ε 3).2 (i + 2)) ((gv_x ε 3).2 (i + 3)) (hC.cls ho) hC.scr (fun l k c hl hk hc e1 e2 e3 sw1 a b => ?_) (fun h => ?_))))))))))))))))))
  · have hM1 := hM.keep b.s44
    obtain ⟨yfs, y8, yl, y0, y1, y2, y3, y4, y5, y6, y7, y17, y18, y19, yN, yU, yK, yP, yT, yA, yB⟩ := hM1.view
    refine t_L_law_614 (t_L_law_615 (t_L_law_616 (t_L_law_617 (t_L_law_618N (t_L_law_619_x (j := 3) (by decide) (i + 1) (by omega) rfl hNb (t_L_law_620 (t_L_law_621 (t_L_law_622 (t_L_law_623N (t_L_law_624_x (j := 3) (by decide) (i + 2) (by omega) rfl hNb (t_L_law_625 (t_L_law_626 (t_L_law_627 (t_L_law_628N (t_L_law_629_x (j := 3) (by decide) (i + 3) (by omega) rfl hNb (t_L_law_630 y8 (Nat.le_of_ble_eq_true rfl) (Nat.le_of_ble_eq_true rfl) (Nat.le_of_ble_eq_true rfl) (sp_X8_stands ((gv_x ε 3).2 (i + 1)) ((gv_x ε 3).2 (i + 2)) ((gv_x ε 3).2 (i + 3)) hM1.qm hro (fun l' k' c' hl' hk' hc' e1' e2' e3' => ?_) (fun h' => absurd ⟨l, k, c, by omega, hk, hc, e1, e2, e3⟩ h'))))))))))))))))))
    have el : l' = l := nI_inj (by omega) (by omega) (e1'.symm.trans e1)
    have ek : k' = k := nI_inj (by omega) (by omega) (e2'.symm.trans e2)
    have ec : c' = c := nI_inj (by omega) (by omega) (e3'.symm.trans e3)
    subst el
    subst ek
    subst ec
    have eh : headR r k' c' = headI s k' c' := by
      unfold headR headI
      rw [hR.1 0 (by decide)]
    rw [eh, ← dotB_cong (ink4 hR ho (l := l') (by omega)) k' c' hc]
    refine t_L_law_633 (fun _ => ?_) (fun h => absurd rfl h)
    exact kk sw1 ⟨_, _, _, _, _, _, _, _, _, _, _, _, _, _, _, _, _, _, _, _, hC.q a b, hM1, ho, hR, hT, hkn, hua, hS, hF, hI0, hI1, hch⟩
  · obtain ⟨yfs, y8, yl, y0, y1, y2, y3, y4, y5, y6, y7, y17, y18, y19, yN, yU, yK, yP, yT, yA, yB⟩ := hM.view
    refine t_L_law_614 (t_L_law_615 (t_L_law_616 (t_L_law_617 (t_L_law_618N (t_L_law_619_x (j := 3) (by decide) (i + 1) (by omega) rfl hNb (t_L_law_620 (t_L_law_621 (t_L_law_622 (t_L_law_623N (t_L_law_624_x (j := 3) (by decide) (i + 2) (by omega) rfl hNb (t_L_law_625 (t_L_law_626 (t_L_law_627 (t_L_law_628N (t_L_law_629_x (j := 3) (by decide) (i + 3) (by omega) rfl hNb (t_L_law_630 y8 (Nat.le_of_ble_eq_true rfl) (Nat.le_of_ble_eq_true rfl) (Nat.le_of_ble_eq_true rfl) (sp_X8_stands ((gv_x ε 3).2 (i + 1)) ((gv_x ε 3).2 (i + 2)) ((gv_x ε 3).2 (i + 3)) hM.qm hro (fun l' k' c' hl' hk' hc' e1' e2' e3' => absurd ⟨l', k', c', by omega, hk', hc', e1', e2', e3'⟩ h) (fun h' => ?_))))))))))))))))))
    refine t_L_law_633 (fun _ => ?_) (fun h => absurd rfl h)
    exact kk sw ⟨_, _, _, _, _, _, _, _, _, _, _, _, _, _, _, _, _, _, _, _, hC, hM, ho, hR, hT, hkn, hua, hS, hF, hI0, hI1, hch⟩
theorem lc_way (hN : i + 4 ≤ (gv_x ε 3).1) (hNb : (gv_x ε 3).1 < 2 ^ 31) (hI : Inv sw) (kk : ∀ sw', Inv sw' → gv_G ε room_1 m_L_law n0 Z 914 [some (.ref 1003), some (.ref 0), some (.ref 44), some (.int (nI i))] [] sw' 55 1869) : gv_G ε room_1 m_L_law n0 Z 638 [some (.ref 1003), some (.ref 0), some (.ref 44), some (.int (nI i))] [] sw 55 1869 := by
  obtain ⟨s, dr, i0, i1, T, n, x, K, P, W, kn, sk, ln, nu, fl, r, U, fk, Kp, ua, hC, hM, ho, hR, hT, hkn, hua, hS, hF, hI0, hI1, hch⟩ := hI
  have h7 := hC.h7
  have hro := hR.ok ho
  have e21 : r 21 = s.2.2.2.2 := hR.2.2.1
  have hl4 := ho.2.2.2.2.1
  refine t_L_law_638 (t_L_law_639 (t_L_law_640 (t_L_law_641 (t_L_law_642N (t_L_law_643_x (j := 3) (by decide) (i + 1) (by omega) rfl hNb (t_L_law_644 h7 (Nat.le_of_ble_eq_true rfl) (Nat.le_of_ble_eq_true rfl) (Nat.le_of_ble_eq_true rfl) (sp_X7_way ((gv_x ε 3).2 (i + 1)) (hC.cls ho) hC.scr (fun w hw e sw1 a b => ?_) (fun h => ?_))))))))
  · have hM1 := hM.keep b.s44
    obtain ⟨yfs, y8, yl, y0, y1, y2, y3, y4, y5, y6, y7, y17, y18, y19, yN, yU, yK, yP, yT, yA, yB⟩ := hM1.view
    refine t_L_law_647 (t_L_law_648 (t_L_law_649 (t_L_law_650 (t_L_law_651N (t_L_law_652_x (j := 3) (by decide) (i + 1) (by omega) rfl hNb (t_L_law_653 y8 (Nat.le_of_ble_eq_true rfl) (Nat.le_of_ble_eq_true rfl) (Nat.le_of_ble_eq_true rfl) (spw_way ((gv_x ε 3).2 (i + 1)) hM1 hro (fun w' hw' e' sw2 hM2 m2 => ?_) (fun h' => absurd e (h' w hw)))))))))
    have ew : w' = w := nI_inj (by omega) (by omega) (e'.symm.trans e)
    rw [ew, ← way_eq hR ho]
    refine t_L_law_656 (fun _ => ?_) (fun h => absurd rfl h)
    exact kk sw2 ⟨_, _, _, _, _, _, _, _, _, _, _, _, _, _, _, _, _, _, _, _, (hC.q a b).mo m2, hM2, ho, hR, hT, hkn, hua, hS, hF, hI0, hI1, hch⟩
  · obtain ⟨yfs, y8, yl, y0, y1, y2, y3, y4, y5, y6, y7, y17, y18, y19, yN, yU, yK, yP, yT, yA, yB⟩ := hM.view
    refine t_L_law_647 (t_L_law_648 (t_L_law_649 (t_L_law_650 (t_L_law_651N (t_L_law_652_x (j := 3) (by decide) (i + 1) (by omega) rfl hNb (t_L_law_653 y8 (Nat.le_of_ble_eq_true rfl) (Nat.le_of_ble_eq_true rfl) (Nat.le_of_ble_eq_true rfl) (spw_way ((gv_x ε 3).2 (i + 1)) hM hro (fun w' hw' e' => absurd e' (h w' hw')) (fun h' => ?_))))))))
    refine t_L_law_656 (fun _ => ?_) (fun h => absurd rfl h)
    exact kk sw ⟨_, _, _, _, _, _, _, _, _, _, _, _, _, _, _, _, _, _, _, _, hC, hM, ho, hR, hT, hkn, hua, hS, hF, hI0, hI1, hch⟩
theorem lc_wear (hN : i + 4 ≤ (gv_x ε 3).1) (hNb : (gv_x ε 3).1 < 2 ^ 31) (hI : Inv sw) (kk : ∀ sw', Inv sw' → gv_G ε room_1 m_L_law n0 Z 914 [some (.ref 1003), some (.ref 0), some (.ref 44), some (.int (nI i))] [] sw' 55 1869) : gv_G ε room_1 m_L_law n0 Z 661 [some (.ref 1003), some (.ref 0), some (.ref 44), some (.int (nI i))] [] sw 55 1869 := by
  obtain ⟨s, dr, i0, i1, T, n, x, K, P, W, kn, sk, ln, nu, fl, r, U, fk, Kp, ua, hC, hM, ho, hR, hT, hkn, hua, hS, hF, hI0, hI1, hch⟩ := hI
  have h7 := hC.h7
  have hro := hR.ok ho
  have e21 : r 21 = s.2.2.2.2 := hR.2.2.1
  have hl4 := ho.2.2.2.2.1
  refine t_L_law_661 (t_L_law_662 (t_L_law_663 (t_L_law_664 (t_L_law_665N (t_L_law_666_x (j := 3) (by decide) (i + 1) (by omega) rfl hNb (t_L_law_667 h7 (Nat.le_of_ble_eq_true rfl) (Nat.le_of_ble_eq_true rfl) (Nat.le_of_ble_eq_true rfl) (sp_X7_wear ((gv_x ε 3).2 (i + 1)) (hC.cls ho) hC.scr (fun k hk e sw1 a b => ?_) (fun h => ?_))))))))
  · have hM1 := hM.keep b.s44
    obtain ⟨yfs, y8, yl, y0, y1, y2, y3, y4, y5, y6, y7, y17, y18, y19, yN, yU, yK, yP, yT, yA, yB⟩ := hM1.view
    refine t_L_law_670 (t_L_law_671 (t_L_law_672 (t_L_law_673 (t_L_law_674N (t_L_law_675_x (j := 3) (by decide) (i + 1) (by omega) rfl hNb (t_L_law_676 y8 (Nat.le_of_ble_eq_true rfl) (Nat.le_of_ble_eq_true rfl) (Nat.le_of_ble_eq_true rfl) (sp_X8_wear ((gv_x ε 3).2 (i + 1)) hM1.qm hro (fun k' hk' e' => ?_) (fun h' => absurd e (h' k hk)))))))))
    have ek : k' = k := nI_inj (by omega) (by omega) (e'.symm.trans e)
    have ev : sumN (fun l => amtN (inkN s l) k) s.2.2.2.2 = sumN (fun l => amtN (inkR r l) k) (r 21) := by
      rw [e21]
      exact sumN_cong (fun l hl => amtN_congr (ink4 hR ho (by omega)) k)
    rw [ek, ev]
    refine t_L_law_679 (fun _ => ?_) (fun h => absurd rfl h)
    exact kk sw1 ⟨_, _, _, _, _, _, _, _, _, _, _, _, _, _, _, _, _, _, _, _, hC.q a b, hM1, ho, hR, hT, hkn, hua, hS, hF, hI0, hI1, hch⟩
  · obtain ⟨yfs, y8, yl, y0, y1, y2, y3, y4, y5, y6, y7, y17, y18, y19, yN, yU, yK, yP, yT, yA, yB⟩ := hM.view
    refine t_L_law_670 (t_L_law_671 (t_L_law_672 (t_L_law_673 (t_L_law_674N (t_L_law_675_x (j := 3) (by decide) (i + 1) (by omega) rfl hNb (t_L_law_676 y8 (Nat.le_of_ble_eq_true rfl) (Nat.le_of_ble_eq_true rfl) (Nat.le_of_ble_eq_true rfl) (sp_X8_wear ((gv_x ε 3).2 (i + 1)) hM.qm hro (fun k' hk' e' => absurd e' (h k' hk')) (fun h' => ?_))))))))
    refine t_L_law_679 (fun _ => ?_) (fun h => absurd rfl h)
    exact kk sw ⟨_, _, _, _, _, _, _, _, _, _, _, _, _, _, _, _, _, _, _, _, hC, hM, ho, hR, hT, hkn, hua, hS, hF, hI0, hI1, hch⟩
theorem lc_crowd (hN : i + 4 ≤ (gv_x ε 3).1) (hNb : (gv_x ε 3).1 < 2 ^ 31) (hI : Inv sw) (kk : ∀ sw', Inv sw' → gv_G ε room_1 m_L_law n0 Z 914 [some (.ref 1003), some (.ref 0), some (.ref 44), some (.int (nI i))] [] sw' 55 1869) : gv_G ε room_1 m_L_law n0 Z 684 [some (.ref 1003), some (.ref 0), some (.ref 44), some (.int (nI i))] [] sw 55 1869 := by
  obtain ⟨s, dr, i0, i1, T, n, x, K, P, W, kn, sk, ln, nu, fl, r, U, fk, Kp, ua, hC, hM, ho, hR, hT, hkn, hua, hS, hF, hI0, hI1, hch⟩ := hI
  have h7 := hC.h7
  have hro := hR.ok ho
  have e21 : r 21 = s.2.2.2.2 := hR.2.2.1
  have hl4 := ho.2.2.2.2.1
  refine t_L_law_684 (t_L_law_685 (t_L_law_686 (t_L_law_687 (t_L_law_688N (t_L_law_689_x (j := 3) (by decide) (i + 1) (by omega) rfl hNb (t_L_law_690 (t_L_law_691 (t_L_law_692 (t_L_law_693N (t_L_law_694_x (j := 3) (by decide) (i + 2) (by omega) rfl hNb (t_L_law_695 h7 (Nat.le_of_ble_eq_true rfl) (Nat.le_of_ble_eq_true rfl) (Nat.le_of_ble_eq_true rfl) (sp_X7_crowd ((gv_x ε 3).2 (i + 1)) ((gv_x ε 3).2 (i + 2)) (hC.cls ho) hC.scr (fun l w m a1 hl hw e1 e2 hf sw1 a b => ?_) (fun h => ?_)))))))))))))
  · have hM1 := hM.keep b.s44
    obtain ⟨yfs, y8, yl, y0, y1, y2, y3, y4, y5, y6, y7, y17, y18, y19, yN, yU, yK, yP, yT, yA, yB⟩ := hM1.view
    refine t_L_law_698 (t_L_law_699 (t_L_law_700 (t_L_law_701 (t_L_law_702N (t_L_law_703_x (j := 3) (by decide) (i + 1) (by omega) rfl hNb (t_L_law_704 (t_L_law_705 (t_L_law_706 (t_L_law_707N (t_L_law_708_x (j := 3) (by decide) (i + 2) (by omega) rfl hNb (t_L_law_709 y8 (Nat.le_of_ble_eq_true rfl) (Nat.le_of_ble_eq_true rfl) (Nat.le_of_ble_eq_true rfl) (sp_X8_crowd ((gv_x ε 3).2 (i + 1)) ((gv_x ε 3).2 (i + 2)) hM1.qm hro (fun l' w' m' a' hl' hw' e1' e2' hf' => ?_) (fun h' => absurd ⟨l, w, by omega, hw, e1, e2⟩ h')))))))))))))
    have el : l' = l := nI_inj (by omega) (by omega) (e1'.symm.trans e1)
    have ew : w' = w := nI_inj (by omega) (by omega) (e2'.symm.trans e2)
    subst el
    subst ew
    rw [hR.1 1 (by decide)] at hf'
    have hf2 := fMax_cong hf' (fun q _ => (crV_cong (ink4 hR ho (l := l') (by omega)) _ q).symm)
    obtain ⟨u1, u2⟩ := fMax_uniq hf hf2
    have ev : crI m a1 w' = crI m' a' w' := by
      subst u1
      unfold crI
      by_cases z : m = 0
      · rw [if_pos z, if_pos z]
      · rw [u2 z]
    rw [ev]
    refine t_L_law_712 (fun _ => ?_) (fun h => absurd rfl h)
    exact kk sw1 ⟨_, _, _, _, _, _, _, _, _, _, _, _, _, _, _, _, _, _, _, _, hC.q a b, hM1, ho, hR, hT, hkn, hua, hS, hF, hI0, hI1, hch⟩
  · obtain ⟨yfs, y8, yl, y0, y1, y2, y3, y4, y5, y6, y7, y17, y18, y19, yN, yU, yK, yP, yT, yA, yB⟩ := hM.view
    refine t_L_law_698 (t_L_law_699 (t_L_law_700 (t_L_law_701 (t_L_law_702N (t_L_law_703_x (j := 3) (by decide) (i + 1) (by omega) rfl hNb (t_L_law_704 (t_L_law_705 (t_L_law_706 (t_L_law_707N (t_L_law_708_x (j := 3) (by decide) (i + 2) (by omega) rfl hNb (t_L_law_709 y8 (Nat.le_of_ble_eq_true rfl) (Nat.le_of_ble_eq_true rfl) (Nat.le_of_ble_eq_true rfl) (sp_X8_crowd ((gv_x ε 3).2 (i + 1)) ((gv_x ε 3).2 (i + 2)) hM.qm hro (fun l' w' m' a' hl' hw' e1' e2' hf' => absurd ⟨l', w', by omega, hw', e1', e2'⟩ h) (fun h' => ?_)))))))))))))
    refine t_L_law_712 (fun _ => ?_) (fun h => absurd rfl h)
    exact kk sw ⟨_, _, _, _, _, _, _, _, _, _, _, _, _, _, _, _, _, _, _, _, hC, hM, ho, hR, hT, hkn, hua, hS, hF, hI0, hI1, hch⟩
theorem lc_easy (hN : i + 4 ≤ (gv_x ε 3).1) (hNb : (gv_x ε 3).1 < 2 ^ 31) (hI : Inv sw) (kk : ∀ sw', Inv sw' → gv_G ε room_1 m_L_law n0 Z 914 [some (.ref 1003), some (.ref 0), some (.ref 44), some (.int (nI i))] [] sw' 55 1869) : gv_G ε room_1 m_L_law n0 Z 717 [some (.ref 1003), some (.ref 0), some (.ref 44), some (.int (nI i))] [] sw 55 1869 := by
  obtain ⟨s, dr, i0, i1, T, n, x, K, P, W, kn, sk, ln, nu, fl, r, U, fk, Kp, ua, hC, hM, ho, hR, hT, hkn, hua, hS, hF, hI0, hI1, hch⟩ := hI
  have h7 := hC.h7
  have hro := hR.ok ho
  have e21 : r 21 = s.2.2.2.2 := hR.2.2.1
  have hl4 := ho.2.2.2.2.1
  refine t_L_law_717 (t_L_law_718 (t_L_law_719 (t_L_law_720 (t_L_law_721N (t_L_law_722_x (j := 3) (by decide) (i + 1) (by omega) rfl hNb (t_L_law_723 h7 (Nat.le_of_ble_eq_true rfl) (Nat.le_of_ble_eq_true rfl) (Nat.le_of_ble_eq_true rfl) (sp_X7_easy ((gv_x ε 3).2 (i + 1)) (hC.cls ho) hC.scr (fun l z hl e hz sw1 a b => ?_) (fun h => ?_))))))))
  · have hM1 := hM.keep b.s44
    obtain ⟨yfs, y8, yl, y0, y1, y2, y3, y4, y5, y6, y7, y17, y18, y19, yN, yU, yK, yP, yT, yA, yB⟩ := hM1.view
    refine t_L_law_726 (t_L_law_727 (t_L_law_728 (t_L_law_729 (t_L_law_730N (t_L_law_731_x (j := 3) (by decide) (i + 1) (by omega) rfl hNb (t_L_law_732 y8 (Nat.le_of_ble_eq_true rfl) (Nat.le_of_ble_eq_true rfl) (Nat.le_of_ble_eq_true rfl) (sp_X8_easy ((gv_x ε 3).2 (i + 1)) hM1.qm hro (fun l' z' hl' e' hz' => ?_) (fun h' => absurd e (h' l (by omega))))))))))
    have el : l' = l := nI_inj (by omega) (by omega) (e'.symm.trans e)
    subst el
    have ev := ezP_uniq (ezP_cong (ink4 hR ho (l := l') (by omega)) hz) hz'
    rw [ev]
    refine t_L_law_735 (fun _ => ?_) (fun h => absurd rfl h)
    exact kk sw1 ⟨_, _, _, _, _, _, _, _, _, _, _, _, _, _, _, _, _, _, _, _, hC.q a b, hM1, ho, hR, hT, hkn, hua, hS, hF, hI0, hI1, hch⟩
  · obtain ⟨yfs, y8, yl, y0, y1, y2, y3, y4, y5, y6, y7, y17, y18, y19, yN, yU, yK, yP, yT, yA, yB⟩ := hM.view
    refine t_L_law_726 (t_L_law_727 (t_L_law_728 (t_L_law_729 (t_L_law_730N (t_L_law_731_x (j := 3) (by decide) (i + 1) (by omega) rfl hNb (t_L_law_732 y8 (Nat.le_of_ble_eq_true rfl) (Nat.le_of_ble_eq_true rfl) (Nat.le_of_ble_eq_true rfl) (sp_X8_easy ((gv_x ε 3).2 (i + 1)) hM.qm hro (fun l' z' hl' e' => absurd e' (h l' (by omega))) (fun h' => ?_))))))))
    refine t_L_law_735 (fun _ => ?_) (fun h => absurd rfl h)
    exact kk sw ⟨_, _, _, _, _, _, _, _, _, _, _, _, _, _, _, _, _, _, _, _, hC, hM, ho, hR, hT, hkn, hua, hS, hF, hI0, hI1, hch⟩
theorem lc_place (hN : i + 4 ≤ (gv_x ε 3).1) (hNb : (gv_x ε 3).1 < 2 ^ 31) (hI : Inv sw) (kk : ∀ sw', Inv sw' → gv_G ε room_1 m_L_law n0 Z 914 [some (.ref 1003), some (.ref 0), some (.ref 44), some (.int (nI i))] [] sw' 55 1869) : gv_G ε room_1 m_L_law n0 Z 740 [some (.ref 1003), some (.ref 0), some (.ref 44), some (.int (nI i))] [] sw 55 1869 := by
  obtain ⟨s, dr, i0, i1, T, n, x, K, P, W, kn, sk, ln, nu, fl, r, U, fk, Kp, ua, hC, hM, ho, hR, hT, hkn, hua, hS, hF, hI0, hI1, hch⟩ := hI
  have h7 := hC.h7
  have hro := hR.ok ho
  have e21 : r 21 = s.2.2.2.2 := hR.2.2.1
  have hl4 := ho.2.2.2.2.1
  obtain ⟨yfs, y8, yl, y0, y1, y2, y3, y4, y5, y6, y7, y17, y18, y19, yN, yU, yK, yP, yT, yA, yB⟩ := hM.view
  refine t_L_law_740 (t_L_law_741 (t_L_law_742 (t_L_law_743 (t_L_law_744N (t_L_law_745_x (j := 3) (by decide) (i + 1) (by omega) rfl hNb (t_L_law_746 (t_L_law_747 (t_L_law_748 (t_L_law_749N (t_L_law_750_x (j := 3) (by decide) (i + 2) (by omega) rfl hNb (t_L_law_751 h7 (Nat.le_of_ble_eq_true rfl) (Nat.le_of_ble_eq_true rfl) (Nat.le_of_ble_eq_true rfl) (sp_X7_place ((gv_x ε 3).2 (i + 1)) ((gv_x ε 3).2 (i + 2)) hC ho (fun h => ?_) (fun l w hl hw e1 e2 => ?_)))))))))))))
  · refine t_L_law_754 (t_L_law_755 (t_L_law_756 (t_L_law_757 (t_L_law_758N (t_L_law_759_x (j := 3) (by decide) (i + 1) (by omega) rfl hNb (t_L_law_760 (t_L_law_761 (t_L_law_762 (t_L_law_763N (t_L_law_764_x (j := 3) (by decide) (i + 2) (by omega) rfl hNb (t_L_law_765 y8 (Nat.le_of_ble_eq_true rfl) (Nat.le_of_ble_eq_true rfl) (Nat.le_of_ble_eq_true rfl) (sp_X8_place ((gv_x ε 3).2 (i + 1)) ((gv_x ε 3).2 (i + 2)) hM hro (fun h' => ?_) (fun l' w' hl' hw' e1' e2' => absurd ⟨l', w', by omega, hw', e1', e2'⟩ h)))))))))))))
    refine t_L_law_768 (fun _ => ?_) (fun h => absurd rfl h)
    exact kk sw ⟨_, _, _, _, _, _, _, _, _, _, _, _, _, _, _, _, _, _, _, _, hC, hM, ho, hR, hT, hkn, hua, hS, hF, hI0, hI1, hch⟩
  · refine t_L_law_754 (t_L_law_755 (t_L_law_756 (t_L_law_757 (t_L_law_758N (t_L_law_759_x (j := 3) (by decide) (i + 1) (by omega) rfl hNb (t_L_law_760 (t_L_law_761 (t_L_law_762 (t_L_law_763N (t_L_law_764_x (j := 3) (by decide) (i + 2) (by omega) rfl hNb (t_L_law_765 y8 (Nat.le_of_ble_eq_true rfl) (Nat.le_of_ble_eq_true rfl) (Nat.le_of_ble_eq_true rfl) (sp_X8_place ((gv_x ε 3).2 (i + 1)) ((gv_x ε 3).2 (i + 2)) hM hro (fun h' => absurd ⟨l, w, by omega, hw, e1, e2⟩ h') (fun l' w' hl' hw' e1' e2' => ?_)))))))))))))
    have el : l' = l := nI_inj (by omega) (by omega) (e1'.symm.trans e1)
    have ew : w' = w := nI_inj (by omega) (by omega) (e2'.symm.trans e2)
    rw [el, ew, hR.1 2 (by decide)]
    refine t_L_law_768 (fun _ => ?_) (fun h => absurd rfl h)
    exact kk sw ⟨_, _, _, _, _, _, _, _, _, _, _, _, _, _, _, _, _, _, _, _, hC, hM, ho, hR, hT, hkn, hua, hS, hF, hI0, hI1, hch⟩
theorem lc_sees (hN : i + 4 ≤ (gv_x ε 3).1) (hNb : (gv_x ε 3).1 < 2 ^ 31) (hI : Inv sw) (kk : ∀ sw', Inv sw' → gv_G ε room_1 m_L_law n0 Z 914 [some (.ref 1003), some (.ref 0), some (.ref 44), some (.int (nI i))] [] sw' 55 1869) : gv_G ε room_1 m_L_law n0 Z 773 [some (.ref 1003), some (.ref 0), some (.ref 44), some (.int (nI i))] [] sw 55 1869 := by
  obtain ⟨s, dr, i0, i1, T, n, x, K, P, W, kn, sk, ln, nu, fl, r, U, fk, Kp, ua, hC, hM, ho, hR, hT, hkn, hua, hS, hF, hI0, hI1, hch⟩ := hI
  have h7 := hC.h7
  have hro := hR.ok ho
  have e21 : r 21 = s.2.2.2.2 := hR.2.2.1
  have hl4 := ho.2.2.2.2.1
  refine t_L_law_773 (t_L_law_774 (t_L_law_775 (t_L_law_776 (t_L_law_777N (t_L_law_778_x (j := 3) (by decide) (i + 1) (by omega) rfl hNb (t_L_law_779 (t_L_law_780 (t_L_law_781 (t_L_law_782N (t_L_law_783_x (j := 3) (by decide) (i + 2) (by omega) rfl hNb (t_L_law_784 h7 (Nat.le_of_ble_eq_true rfl) (Nat.le_of_ble_eq_true rfl) (Nat.le_of_ble_eq_true rfl) (sp_X7_sees ((gv_x ε 3).2 (i + 1)) ((gv_x ε 3).2 (i + 2)) hC ho hS.1 (fun h => ?_) (fun l m hl hm e1 e2 q => ?_) (fun l m hl hm e1 e2 q sw1 hC1 m1 => ?_)))))))))))))
  · obtain ⟨yfs, y8, yl, y0, y1, y2, y3, y4, y5, y6, y7, y17, y18, y19, yN, yU, yK, yP, yT, yA, yB⟩ := hM.view
    refine t_L_law_787 (t_L_law_788 (t_L_law_789 (t_L_law_790 (t_L_law_791N (t_L_law_792_x (j := 3) (by decide) (i + 1) (by omega) rfl hNb (t_L_law_793 (t_L_law_794 (t_L_law_795 (t_L_law_796N (t_L_law_797_x (j := 3) (by decide) (i + 2) (by omega) rfl hNb (t_L_law_798 y8 (Nat.le_of_ble_eq_true rfl) (Nat.le_of_ble_eq_true rfl) (Nat.le_of_ble_eq_true rfl) (sp_X8_sees ((gv_x ε 3).2 (i + 1)) ((gv_x ε 3).2 (i + 2)) hM hro hS.1 (fun h' => ?_) (fun l m hl hm e1 e2 => absurd ⟨l, m, by omega, hm, e1, e2⟩ h) (fun l m hl hm e1 e2 => absurd ⟨l, m, by omega, hm, e1, e2⟩ h)))))))))))))
    refine t_L_law_801 (fun _ => ?_) (fun h => absurd rfl h)
    exact kk sw ⟨_, _, _, _, _, _, _, _, _, _, _, _, _, _, _, _, _, _, _, _, hC, hM, ho, hR, hT, hkn, hua, hS, hF, hI0, hI1, hch⟩
  · obtain ⟨yfs, y8, yl, y0, y1, y2, y3, y4, y5, y6, y7, y17, y18, y19, yN, yU, yK, yP, yT, yA, yB⟩ := hM.view
    refine t_L_law_787 (t_L_law_788 (t_L_law_789 (t_L_law_790 (t_L_law_791N (t_L_law_792_x (j := 3) (by decide) (i + 1) (by omega) rfl hNb (t_L_law_793 (t_L_law_794 (t_L_law_795 (t_L_law_796N (t_L_law_797_x (j := 3) (by decide) (i + 2) (by omega) rfl hNb (t_L_law_798 y8 (Nat.le_of_ble_eq_true rfl) (Nat.le_of_ble_eq_true rfl) (Nat.le_of_ble_eq_true rfl) (sp_X8_sees ((gv_x ε 3).2 (i + 1)) ((gv_x ε 3).2 (i + 2)) hM hro hS.1 (fun h' => absurd ⟨l, m, by omega, hm, e1, e2⟩ h') (fun l' m' hl' hm' e1' e2' q' => ?_) (fun l' m' hl' hm' e1' e2' q' => absurd q' (by omega))))))))))))))
    refine t_L_law_801 (fun _ => ?_) (fun h => absurd rfl h)
    exact kk sw ⟨_, _, _, _, _, _, _, _, _, _, _, _, _, _, _, _, _, _, _, _, hC, hM, ho, hR, hT, hkn, hua, hS, hF, hI0, hI1, hch⟩
  · have hM1 := hM.keep m1
    obtain ⟨yfs, y8, yl, y0, y1, y2, y3, y4, y5, y6, y7, y17, y18, y19, yN, yU, yK, yP, yT, yA, yB⟩ := hM1.view
    refine t_L_law_787 (t_L_law_788 (t_L_law_789 (t_L_law_790 (t_L_law_791N (t_L_law_792_x (j := 3) (by decide) (i + 1) (by omega) rfl hNb (t_L_law_793 (t_L_law_794 (t_L_law_795 (t_L_law_796N (t_L_law_797_x (j := 3) (by decide) (i + 2) (by omega) rfl hNb (t_L_law_798 y8 (Nat.le_of_ble_eq_true rfl) (Nat.le_of_ble_eq_true rfl) (Nat.le_of_ble_eq_true rfl) (sp_X8_sees ((gv_x ε 3).2 (i + 1)) ((gv_x ε 3).2 (i + 2)) hM1 hro hS.1 (fun h' => absurd ⟨l, m, by omega, hm, e1, e2⟩ h') (fun l' m' hl' hm' e1' e2' q' => absurd q' (by omega)) (fun l' m' hl' hm' e1' e2' q' sw2 hM2 m2 => ?_)))))))))))))
    have el : l' = l := nI_inj (by omega) (by omega) (e1'.symm.trans e1)
    have em : m' = m := nI_inj (by omega) (by omega) (e2'.symm.trans e2)
    subst el
    subst em
    have hS' : siOk (sk + 1) (fun i => if i = sk then l' else ln i) (fun i => if i = sk then m' else nu i) := ⟨q, fun j hj => by
      show (if j = sk then l' else ln j) < 4 ∧ (if j = sk then m' else nu j) ≤ 192
      by_cases z : j = sk
      · rw [if_pos z, if_pos z]
        exact ⟨by omega, hm⟩
      · rw [if_neg z, if_neg z]
        exact hS.2 j (by omega)⟩
    refine t_L_law_801 (fun _ => ?_) (fun h => absurd rfl h)
    exact kk sw2 ⟨_, _, _, _, _, _, _, _, _, _, _, _, _, _, _, _, _, _, _, _, hC1.mo m2, hM2, ho, hR, hT, hkn, hua, hS', hF, hI0, hI1, hch⟩
theorem lc_forget (hN : i + 4 ≤ (gv_x ε 3).1) (hNb : (gv_x ε 3).1 < 2 ^ 31) (hI : Inv sw) (kk : ∀ sw', Inv sw' → gv_G ε room_1 m_L_law n0 Z 914 [some (.ref 1003), some (.ref 0), some (.ref 44), some (.int (nI i))] [] sw' 55 1869) : gv_G ε room_1 m_L_law n0 Z 806 [some (.ref 1003), some (.ref 0), some (.ref 44), some (.int (nI i))] [] sw 55 1869 := by
  obtain ⟨s, dr, i0, i1, T, n, x, K, P, W, kn, sk, ln, nu, fl, r, U, fk, Kp, ua, hC, hM, ho, hR, hT, hkn, hua, hS, hF, hI0, hI1, hch⟩ := hI
  have h7 := hC.h7
  have hro := hR.ok ho
  have e21 : r 21 = s.2.2.2.2 := hR.2.2.1
  have hl4 := ho.2.2.2.2.1
  refine t_L_law_806 (t_L_law_807 h7 (Nat.le_of_ble_eq_true rfl) (Nat.le_of_ble_eq_true rfl) (Nat.le_of_ble_eq_true rfl) (sp_X7_forget hC (fun sw1 hC1 m1 => ?_)))
  have hM1 := hM.keep m1
  obtain ⟨yfs, y8, yl, y0, y1, y2, y3, y4, y5, y6, y7, y17, y18, y19, yN, yU, yK, yP, yT, yA, yB⟩ := hM1.view
  refine t_L_law_810 (t_L_law_811 y8 (Nat.le_of_ble_eq_true rfl) (Nat.le_of_ble_eq_true rfl) (Nat.le_of_ble_eq_true rfl) (sp_X8_forget hM1 (fun sw2 hM2 m2 => ?_)))
  refine t_L_law_814 (fun _ => ?_) (fun h => absurd rfl h)
  exact kk sw2 ⟨_, _, _, _, _, _, _, _, _, _, _, _, _, _, _, _, _, _, _, _, hC1.mo m2, hM2, ho, hR, hT, hkn, hua, ⟨Nat.zero_le _, fun j hj => absurd hj (Nat.not_lt_zero _)⟩, hF, hI0, hI1, hch⟩
theorem lc_unseen (hN : i + 4 ≤ (gv_x ε 3).1) (hNb : (gv_x ε 3).1 < 2 ^ 31) (hI : Inv sw) (kk : ∀ sw', Inv sw' → gv_G ε room_1 m_L_law n0 Z 914 [some (.ref 1003), some (.ref 0), some (.ref 44), some (.int (nI i))] [] sw' 55 1869) : gv_G ε room_1 m_L_law n0 Z 819 [some (.ref 1003), some (.ref 0), some (.ref 44), some (.int (nI i))] [] sw 55 1869 := by
  obtain ⟨s, dr, i0, i1, T, n, x, K, P, W, kn, sk, ln, nu, fl, r, U, fk, Kp, ua, hC, hM, ho, hR, hT, hkn, hua, hS, hF, hI0, hI1, hch⟩ := hI
  have h7 := hC.h7
  have hro := hR.ok ho
  have e21 : r 21 = s.2.2.2.2 := hR.2.2.1
  have hl4 := ho.2.2.2.2.1
  have eu : unV (inkR r) (r 21) ln nu sk = unV (inkN s) s.2.2.2.2 ln nu sk := by
    rw [e21]
    exact (unV_cong (fun l hl c hc => ink4 hR ho (by omega) c hc) sk).symm
  refine t_L_law_819 (t_L_law_820 h7 (Nat.le_of_ble_eq_true rfl) (Nat.le_of_ble_eq_true rfl) (Nat.le_of_ble_eq_true rfl) (sp_X7_unseen (hC.cls ho) hC.scr hC.2.2.2.2.2.1 hS (fun sw1 a b => ?_)))
  have hM1 := hM.keep b.s44
  obtain ⟨yfs, y8, yl, y0, y1, y2, y3, y4, y5, y6, y7, y17, y18, y19, yN, yU, yK, yP, yT, yA, yB⟩ := hM1.view
  refine t_L_law_823 (t_L_law_824 y8 (Nat.le_of_ble_eq_true rfl) (Nat.le_of_ble_eq_true rfl) (Nat.le_of_ble_eq_true rfl) (spw_unseen hM1 hro hS ?_))
  rw [eu]
  refine t_L_law_827 (fun _ => ?_) (fun h => absurd rfl h)
  exact kk sw1 ⟨_, _, _, _, _, _, _, _, _, _, _, _, _, _, _, _, _, _, _, _, hC.q a b, hM1, ho, hR, hT, hkn, hua, hS, hF, hI0, hI1, hch⟩
theorem lc_ask (hN : i + 4 ≤ (gv_x ε 3).1) (hNb : (gv_x ε 3).1 < 2 ^ 31) (hI : Inv sw) (kk : ∀ sw', Inv sw' → gv_G ε room_1 m_L_law n0 Z 914 [some (.ref 1003), some (.ref 0), some (.ref 44), some (.int (nI i))] [] sw' 55 1869) : gv_G ε room_1 m_L_law n0 Z 832 [some (.ref 1003), some (.ref 0), some (.ref 44), some (.int (nI i))] [] sw 55 1869 := by
  obtain ⟨s, dr, i0, i1, T, n, x, K, P, W, kn, sk, ln, nu, fl, r, U, fk, Kp, ua, hC, hM, ho, hR, hT, hkn, hua, hS, hF, hI0, hI1, hch⟩ := hI
  have h7 := hC.h7
  have hro := hR.ok ho
  have e21 : r 21 = s.2.2.2.2 := hR.2.2.1
  have hl4 := ho.2.2.2.2.1
  have eu : unV (inkR r) (r 21) ln nu sk = unV (inkN s) s.2.2.2.2 ln nu sk := by
    rw [e21]
    exact (unV_cong (fun l hl c hc => ink4 hR ho (by omega) c hc) sk).symm
  refine t_L_law_832 (t_L_law_833 h7 (Nat.le_of_ble_eq_true rfl) (Nat.le_of_ble_eq_true rfl) (Nat.le_of_ble_eq_true rfl) (sp_X7_ask (hC.cls ho) hC.scr hC.2.2.2.2.2.1 hS (fun z sw1 a b => ?_) (fun z m a1 hf sw1 a b => ?_)))
  · have hM1 := hM.keep b.s44
    obtain ⟨yfs, y8, yl, y0, y1, y2, y3, y4, y5, y6, y7, y17, y18, y19, yN, yU, yK, yP, yT, yA, yB⟩ := hM1.view
    refine t_L_law_836 (t_L_law_837 y8 (Nat.le_of_ble_eq_true rfl) (Nat.le_of_ble_eq_true rfl) (Nat.le_of_ble_eq_true rfl) (spw_ask hM1 hro hS (fun z' => ?_) (fun z' => absurd z (by rw [← eu]; exact z'))))
    refine t_L_law_840 (fun _ => ?_) (fun h => absurd rfl h)
    exact kk sw1 ⟨_, _, _, _, _, _, _, _, _, _, _, _, _, _, _, _, _, _, _, _, hC.q a b, hM1, ho, hR, hT, hkn, hua, hS, hF, hI0, hI1, hch⟩
  · have hM1 := hM.keep b.s44
    obtain ⟨yfs, y8, yl, y0, y1, y2, y3, y4, y5, y6, y7, y17, y18, y19, yN, yU, yK, yP, yT, yA, yB⟩ := hM1.view
    refine t_L_law_836 (t_L_law_837 y8 (Nat.le_of_ble_eq_true rfl) (Nat.le_of_ble_eq_true rfl) (Nat.le_of_ble_eq_true rfl) (spw_ask hM1 hro hS (fun z' => absurd z' (by rw [eu]; exact z)) (fun z' m' a' hf' => ?_)))
    rw [eu, e21] at hf'
    have hf2 := fMax_cong hf' (fun q hq => (unlN_congr (ink4 hR ho (l := q) (by omega)) _).symm)
    obtain ⟨u1, u2⟩ := fMax_uniq hf hf2
    have ev : (if m = 0 then -9 else nI a1 : Int32) = if m' = 0 then -9 else nI a' := by
      subst u1
      by_cases z : m = 0
      · rw [if_pos z, if_pos z]
      · rw [u2 z]
    rw [ev]
    refine t_L_law_840 (fun _ => ?_) (fun h => absurd rfl h)
    exact kk sw1 ⟨_, _, _, _, _, _, _, _, _, _, _, _, _, _, _, _, _, _, _, _, hC.q a b, hM1, ho, hR, hT, hkn, hua, hS, hF, hI0, hI1, hch⟩
theorem lc_keep (hN : i + 4 ≤ (gv_x ε 3).1) (hNb : (gv_x ε 3).1 < 2 ^ 31) (hI : Inv sw) (kk : ∀ sw', Inv sw' → gv_G ε room_1 m_L_law n0 Z 914 [some (.ref 1003), some (.ref 0), some (.ref 44), some (.int (nI i))] [] sw' 55 1869) : gv_G ε room_1 m_L_law n0 Z 845 [some (.ref 1003), some (.ref 0), some (.ref 44), some (.int (nI i))] [] sw 55 1869 := by
  obtain ⟨s, dr, i0, i1, T, n, x, K, P, W, kn, sk, ln, nu, fl, r, U, fk, Kp, ua, hC, hM, ho, hR, hT, hkn, hua, hS, hF, hI0, hI1, hch⟩ := hI
  have h7 := hC.h7
  have hro := hR.ok ho
  have e21 : r 21 = s.2.2.2.2 := hR.2.2.1
  have hl4 := ho.2.2.2.2.1
  refine t_L_law_845 (t_L_law_846 (t_L_law_847 (t_L_law_848 (t_L_law_849N (t_L_law_850_x (j := 3) (by decide) (i + 1) (by omega) rfl hNb (t_L_law_851 h7 (Nat.le_of_ble_eq_true rfl) (Nat.le_of_ble_eq_true rfl) (Nat.le_of_ble_eq_true rfl) (sp_X7_keep ((gv_x ε 3).2 (i + 1)) hC (fun h => ?_) (fun e sw1 hC1 m1 => ?_) (fun e sw1 hC1 m1 => ?_))))))))
  · obtain ⟨yfs, y8, yl, y0, y1, y2, y3, y4, y5, y6, y7, y17, y18, y19, yN, yU, yK, yP, yT, yA, yB⟩ := hM.view
    refine t_L_law_854 (t_L_law_855 (t_L_law_856 (t_L_law_857 (t_L_law_858N (t_L_law_859_x (j := 3) (by decide) (i + 1) (by omega) rfl hNb (t_L_law_860 y8 (Nat.le_of_ble_eq_true rfl) (Nat.le_of_ble_eq_true rfl) (Nat.le_of_ble_eq_true rfl) (sp_X8_keep ((gv_x ε 3).2 (i + 1)) hM hro (fun h' => ?_) (fun j hj e => absurd e (h j hj)))))))))
    refine t_L_law_863 (fun _ => ?_) (fun h => absurd rfl h)
    exact kk sw ⟨_, _, _, _, _, _, _, _, _, _, _, _, _, _, _, _, _, _, _, _, hC, hM, ho, hR, hT, hkn, hua, hS, hF, hI0, hI1, hch⟩
  · have hM1 := hM.keep m1
    obtain ⟨yfs, y8, yl, y0, y1, y2, y3, y4, y5, y6, y7, y17, y18, y19, yN, yU, yK, yP, yT, yA, yB⟩ := hM1.view
    refine t_L_law_854 (t_L_law_855 (t_L_law_856 (t_L_law_857 (t_L_law_858N (t_L_law_859_x (j := 3) (by decide) (i + 1) (by omega) rfl hNb (t_L_law_860 y8 (Nat.le_of_ble_eq_true rfl) (Nat.le_of_ble_eq_true rfl) (Nat.le_of_ble_eq_true rfl) (sp_X8_keep ((gv_x ε 3).2 (i + 1)) hM1 hro (fun h' => absurd e (h' 0 (by decide))) (fun j' hj' e' Kp' sw2 hK hM2 m2 => ?_))))))))
    have ej : j' = 0 := nI_inj (by omega) (by omega) (e'.symm.trans e)
    subst ej
    have hF' : ∀ q, q < 2 → up fl 0 1 q ≤ 1 ∧ up fk 0 1 q = up fl 0 1 q := by
      intro q hq
      by_cases z : q = 0
      · rw [z, up_at, up_at]
        exact ⟨Nat.le_refl _, rfl⟩
      · rw [up_ne z, up_ne z]
        exact hF q hq
    have hnew : imOk (up fl 0 1 0) (shCp s i0) Kp' 0 := fun _ => ⟨shOk_cp ho, (Rel_cp hR ho).cong (fun k hk => hK.1 k hk)⟩
    have hold : imOk (up fl 0 1 1) i1 Kp' 1 := by
      intro z
      rw [up_ne (by decide)] at z
      obtain ⟨g1, g2⟩ := hI1 z
      exact ⟨g1, g2.cong (fun k hk => hK.2 _ (by omega))⟩
    rw [e21]
    refine t_L_law_863 (fun _ => ?_) (fun h => absurd rfl h)
    exact kk sw2 ⟨_, _, _, _, _, _, _, _, _, _, _, _, _, _, _, _, _, _, _, _, hC1.mo m2, hM2, ho, hR, hT, hkn, hua, hS, hF', hnew, hold, hch⟩
  · have hM1 := hM.keep m1
    obtain ⟨yfs, y8, yl, y0, y1, y2, y3, y4, y5, y6, y7, y17, y18, y19, yN, yU, yK, yP, yT, yA, yB⟩ := hM1.view
    refine t_L_law_854 (t_L_law_855 (t_L_law_856 (t_L_law_857 (t_L_law_858N (t_L_law_859_x (j := 3) (by decide) (i + 1) (by omega) rfl hNb (t_L_law_860 y8 (Nat.le_of_ble_eq_true rfl) (Nat.le_of_ble_eq_true rfl) (Nat.le_of_ble_eq_true rfl) (sp_X8_keep ((gv_x ε 3).2 (i + 1)) hM1 hro (fun h' => absurd e (h' 1 (by decide))) (fun j' hj' e' Kp' sw2 hK hM2 m2 => ?_))))))))
    have ej : j' = 1 := nI_inj (by omega) (by omega) (e'.symm.trans e)
    subst ej
    have hF' : ∀ q, q < 2 → up fl 1 1 q ≤ 1 ∧ up fk 1 1 q = up fl 1 1 q := by
      intro q hq
      by_cases z : q = 1
      · rw [z, up_at, up_at]
        exact ⟨Nat.le_refl _, rfl⟩
      · rw [up_ne z, up_ne z]
        exact hF q hq
    have hnew : imOk (up fl 1 1 1) (shCp s i1) Kp' 1 := fun _ => ⟨shOk_cp ho, (Rel_cp hR ho).cong (fun k hk => hK.1 k hk)⟩
    have hold : imOk (up fl 1 1 0) i0 Kp' 0 := by
      intro z
      rw [up_ne (by decide)] at z
      obtain ⟨g1, g2⟩ := hI0 z
      exact ⟨g1, g2.cong (fun k hk => hK.2 _ (by omega))⟩
    rw [e21]
    refine t_L_law_863 (fun _ => ?_) (fun h => absurd rfl h)
    exact kk sw2 ⟨_, _, _, _, _, _, _, _, _, _, _, _, _, _, _, _, _, _, _, _, hC1.mo m2, hM2, ho, hR, hT, hkn, hua, hS, hF', hold, hnew, hch⟩
theorem lc_back (hN : i + 4 ≤ (gv_x ε 3).1) (hNb : (gv_x ε 3).1 < 2 ^ 31) (hI : Inv sw) (kk : ∀ sw', Inv sw' → gv_G ε room_1 m_L_law n0 Z 914 [some (.ref 1003), some (.ref 0), some (.ref 44), some (.int (nI i))] [] sw' 55 1869) : gv_G ε room_1 m_L_law n0 Z 868 [some (.ref 1003), some (.ref 0), some (.ref 44), some (.int (nI i))] [] sw 55 1869 := by
  obtain ⟨s, dr, i0, i1, T, n, x, K, P, W, kn, sk, ln, nu, fl, r, U, fk, Kp, ua, hC, hM, ho, hR, hT, hkn, hua, hS, hF, hI0, hI1, hch⟩ := hI
  have h7 := hC.h7
  have hro := hR.ok ho
  have e21 : r 21 = s.2.2.2.2 := hR.2.2.1
  have hl4 := ho.2.2.2.2.1
  refine t_L_law_868 (t_L_law_869 (t_L_law_870 (t_L_law_871 (t_L_law_872N (t_L_law_873_x (j := 3) (by decide) (i + 1) (by omega) rfl hNb (t_L_law_874 h7 (Nat.le_of_ble_eq_true rfl) (Nat.le_of_ble_eq_true rfl) (Nat.le_of_ble_eq_true rfl) (sp_X7_back ((gv_x ε 3).2 (i + 1)) hC (fun j hj => (hF j hj).1) (fun h => ?_) (fun j hj e q => ?_) (fun e q sw1 hC1 m1 => ?_) (fun e q sw1 hC1 m1 => ?_))))))))
  · obtain ⟨yfs, y8, yl, y0, y1, y2, y3, y4, y5, y6, y7, y17, y18, y19, yN, yU, yK, yP, yT, yA, yB⟩ := hM.view
    refine t_L_law_877 (t_L_law_878 (t_L_law_879 (t_L_law_880 (t_L_law_881N (t_L_law_882_x (j := 3) (by decide) (i + 1) (by omega) rfl hNb (t_L_law_883 y8 (Nat.le_of_ble_eq_true rfl) (Nat.le_of_ble_eq_true rfl) (Nat.le_of_ble_eq_true rfl) (sp_X8_back ((gv_x ε 3).2 (i + 1)) hM (fun j hj => by rw [(hF j hj).2]; exact (hF j hj).1) (fun h' => ?_) (fun j hj e => absurd e (h j hj)) (fun j hj e => absurd e (h j hj)))))))))
    refine t_L_law_886 (fun _ => ?_) (fun h => absurd rfl h)
    exact kk sw ⟨_, _, _, _, _, _, _, _, _, _, _, _, _, _, _, _, _, _, _, _, hC, hM, ho, hR, hT, hkn, hua, hS, hF, hI0, hI1, hch⟩
  · obtain ⟨yfs, y8, yl, y0, y1, y2, y3, y4, y5, y6, y7, y17, y18, y19, yN, yU, yK, yP, yT, yA, yB⟩ := hM.view
    refine t_L_law_877 (t_L_law_878 (t_L_law_879 (t_L_law_880 (t_L_law_881N (t_L_law_882_x (j := 3) (by decide) (i + 1) (by omega) rfl hNb (t_L_law_883 y8 (Nat.le_of_ble_eq_true rfl) (Nat.le_of_ble_eq_true rfl) (Nat.le_of_ble_eq_true rfl) (sp_X8_back ((gv_x ε 3).2 (i + 1)) hM (fun j hj => by rw [(hF j hj).2]; exact (hF j hj).1) (fun h' => absurd e (h' j hj)) (fun j' hj' e' q' => ?_) (fun j' hj' e' q' => ?_))))))))
    · refine t_L_law_886 (fun _ => ?_) (fun h => absurd rfl h)
      exact kk sw ⟨_, _, _, _, _, _, _, _, _, _, _, _, _, _, _, _, _, _, _, _, hC, hM, ho, hR, hT, hkn, hua, hS, hF, hI0, hI1, hch⟩
    · exfalso
      have ej : j' = j := nI_inj (by omega) (by omega) (e'.symm.trans e)
      rw [ej, (hF j hj).2] at q'
      omega
  · have hM1 := hM.keep m1
    obtain ⟨yfs, y8, yl, y0, y1, y2, y3, y4, y5, y6, y7, y17, y18, y19, yN, yU, yK, yP, yT, yA, yB⟩ := hM1.view
    refine t_L_law_877 (t_L_law_878 (t_L_law_879 (t_L_law_880 (t_L_law_881N (t_L_law_882_x (j := 3) (by decide) (i + 1) (by omega) rfl hNb (t_L_law_883 y8 (Nat.le_of_ble_eq_true rfl) (Nat.le_of_ble_eq_true rfl) (Nat.le_of_ble_eq_true rfl) (sp_X8_back ((gv_x ε 3).2 (i + 1)) hM1 (fun j hj => by rw [(hF j hj).2]; exact (hF j hj).1) (fun h' => absurd e (h' 0 (by decide))) (fun j' hj' e' q' => ?_) (fun j' hj' e' q' r' sw2 hr' hM2 m2 => ?_))))))))
    · exfalso
      have ej : j' = 0 := nI_inj (by omega) (by omega) (e'.symm.trans e)
      rw [ej, (hF 0 (by decide)).2] at q'
      omega
    · have ej : j' = 0 := nI_inj (by omega) (by omega) (e'.symm.trans e)
      subst ej
      obtain ⟨g1, g2⟩ := hI0 q
      have ev : Kp (58 * 0 + 21) = i0.2.2.2.2 := g2.2.2.1
      rw [ev]
      refine t_L_law_886 (fun _ => ?_) (fun h => absurd rfl h)
      exact kk sw2 ⟨_, _, _, _, _, _, _, _, _, _, _, _, _, _, _, _, _, _, _, _, hC1.mo m2, hM2, shOk_cp g1, (Rel_cp g2 g1).cong hr', hT, Nat.zero_le _, hua, hS, hF, hI0, hI1, fun j hj => absurd hj (Nat.not_lt_zero _)⟩
  · have hM1 := hM.keep m1
    obtain ⟨yfs, y8, yl, y0, y1, y2, y3, y4, y5, y6, y7, y17, y18, y19, yN, yU, yK, yP, yT, yA, yB⟩ := hM1.view
    refine t_L_law_877 (t_L_law_878 (t_L_law_879 (t_L_law_880 (t_L_law_881N (t_L_law_882_x (j := 3) (by decide) (i + 1) (by omega) rfl hNb (t_L_law_883 y8 (Nat.le_of_ble_eq_true rfl) (Nat.le_of_ble_eq_true rfl) (Nat.le_of_ble_eq_true rfl) (sp_X8_back ((gv_x ε 3).2 (i + 1)) hM1 (fun j hj => by rw [(hF j hj).2]; exact (hF j hj).1) (fun h' => absurd e (h' 1 (by decide))) (fun j' hj' e' q' => ?_) (fun j' hj' e' q' r' sw2 hr' hM2 m2 => ?_))))))))
    · exfalso
      have ej : j' = 1 := nI_inj (by omega) (by omega) (e'.symm.trans e)
      rw [ej, (hF 1 (by decide)).2] at q'
      omega
    · have ej : j' = 1 := nI_inj (by omega) (by omega) (e'.symm.trans e)
      subst ej
      obtain ⟨g1, g2⟩ := hI1 q
      have ev : Kp (58 * 1 + 21) = i1.2.2.2.2 := g2.2.2.1
      rw [ev]
      refine t_L_law_886 (fun _ => ?_) (fun h => absurd rfl h)
      exact kk sw2 ⟨_, _, _, _, _, _, _, _, _, _, _, _, _, _, _, _, _, _, _, _, hC1.mo m2, hM2, shOk_cp g1, (Rel_cp g2 g1).cong hr', hT, Nat.zero_le _, hua, hS, hF, hI0, hI1, fun j hj => absurd hj (Nat.not_lt_zero _)⟩
theorem lc_count (hN : i + 4 ≤ (gv_x ε 3).1) (hNb : (gv_x ε 3).1 < 2 ^ 31) (hI : Inv sw) (kk : ∀ sw', Inv sw' → gv_G ε room_1 m_L_law n0 Z 914 [some (.ref 1003), some (.ref 0), some (.ref 44), some (.int (nI i))] [] sw' 55 1869) : gv_G ε room_1 m_L_law n0 Z 891 [some (.ref 1003), some (.ref 0), some (.ref 44), some (.int (nI i))] [] sw 55 1869 := by
  obtain ⟨s, dr, i0, i1, T, n, x, K, P, W, kn, sk, ln, nu, fl, r, U, fk, Kp, ua, hC, hM, ho, hR, hT, hkn, hua, hS, hF, hI0, hI1, hch⟩ := hI
  have h7 := hC.h7
  have hro := hR.ok ho
  have e21 : r 21 = s.2.2.2.2 := hR.2.2.1
  have hl4 := ho.2.2.2.2.1
  refine t_L_law_891 (t_L_law_892 (t_L_law_893 (t_L_law_894 (t_L_law_895N (t_L_law_896_x (j := 3) (by decide) (i + 1) (by omega) rfl hNb (t_L_law_897 h7 (Nat.le_of_ble_eq_true rfl) (Nat.le_of_ble_eq_true rfl) (Nat.le_of_ble_eq_true rfl) (sp_X7_count ((gv_x ε 3).2 (i + 1)) hC ho (fun h => ?_) (fun j hj e sw1 a b => ?_))))))))
  · obtain ⟨yfs, y8, yl, y0, y1, y2, y3, y4, y5, y6, y7, y17, y18, y19, yN, yU, yK, yP, yT, yA, yB⟩ := hM.view
    refine t_L_law_900 (t_L_law_901 (t_L_law_902 (t_L_law_903 (t_L_law_904N (t_L_law_905_x (j := 3) (by decide) (i + 1) (by omega) rfl hNb (t_L_law_906 y8 (Nat.le_of_ble_eq_true rfl) (Nat.le_of_ble_eq_true rfl) (Nat.le_of_ble_eq_true rfl) (sp_X8_count ((gv_x ε 3).2 (i + 1)) hM hro (fun h' => ?_) (fun j hj e => absurd e (h j hj)))))))))
    refine t_L_law_909 (fun _ => ?_) (fun h => absurd rfl h)
    exact kk sw ⟨_, _, _, _, _, _, _, _, _, _, _, _, _, _, _, _, _, _, _, _, hC, hM, ho, hR, hT, hkn, hua, hS, hF, hI0, hI1, hch⟩
  · have hM1 := hM.keep b.s44
    obtain ⟨yfs, y8, yl, y0, y1, y2, y3, y4, y5, y6, y7, y17, y18, y19, yN, yU, yK, yP, yT, yA, yB⟩ := hM1.view
    refine t_L_law_900 (t_L_law_901 (t_L_law_902 (t_L_law_903 (t_L_law_904N (t_L_law_905_x (j := 3) (by decide) (i + 1) (by omega) rfl hNb (t_L_law_906 y8 (Nat.le_of_ble_eq_true rfl) (Nat.le_of_ble_eq_true rfl) (Nat.le_of_ble_eq_true rfl) (sp_X8_count ((gv_x ε 3).2 (i + 1)) hM1 hro (fun h' => absurd e (h' j hj)) (fun j' hj' e' => ?_))))))))
    have ej : j' = j := nI_inj (by omega) (by omega) (e'.symm.trans e)
    rw [ej, ← ct_eq hR ho]
    refine t_L_law_909 (fun _ => ?_) (fun h => absurd rfl h)
    exact kk sw1 ⟨_, _, _, _, _, _, _, _, _, _, _, _, _, _, _, _, _, _, _, _, hC.q a b, hM1, ho, hR, hT, hkn, hua, hS, hF, hI0, hI1, hch⟩
end LAW
